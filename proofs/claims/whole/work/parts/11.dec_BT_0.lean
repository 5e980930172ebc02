theorem d_BT_init_0 : decode prog_1_method_1_code 0 = .ok (.aload_n 0, 1) := by decide +kernel
theorem d_BT_init_1 : decode prog_1_method_1_code 1 = .ok (.invokespecial 3, 3) := by decide +kernel
theorem d_BT_init_4 : decode prog_1_method_1_code 4 = .ok (.aload_n 0, 1) := by decide +kernel
theorem d_BT_init_5 : decode prog_1_method_1_code 5 = .ok (.bipush 6, 2) := by decide +kernel
theorem d_BT_init_7 : decode prog_1_method_1_code 7 = .ok (.anewarray 9, 3) := by decide +kernel
theorem d_BT_init_10 : decode prog_1_method_1_code 10 = .ok (.putfield 11, 3) := by decide +kernel
theorem d_BT_init_13 : decode prog_1_method_1_code 13 = .ok (.aload_n 0, 1) := by decide +kernel
theorem d_BT_init_14 : decode prog_1_method_1_code 14 = .ok (.bipush 8, 2) := by decide +kernel
theorem d_BT_init_16 : decode prog_1_method_1_code 16 = .ok (.anewarray 15, 3) := by decide +kernel
theorem d_BT_init_19 : decode prog_1_method_1_code 19 = .ok (.putfield 17, 3) := by decide +kernel
theorem d_BT_init_22 : decode prog_1_method_1_code 22 = .ok (.aload_n 0, 1) := by decide +kernel
theorem d_BT_init_23 : decode prog_1_method_1_code 23 = .ok (.new 21, 3) := by decide +kernel
theorem d_BT_init_26 : decode prog_1_method_1_code 26 = .ok (.dup, 1) := by decide +kernel
theorem d_BT_init_27 : decode prog_1_method_1_code 27 = .ok (.invokespecial 23, 3) := by decide +kernel
theorem d_BT_init_30 : decode prog_1_method_1_code 30 = .ok (.putfield 24, 3) := by decide +kernel
theorem d_BT_init_33 : decode prog_1_method_1_code 33 = .ok (.aload_n 0, 1) := by decide +kernel
theorem d_BT_init_34 : decode prog_1_method_1_code 34 = .ok (.iconst 1, 1) := by decide +kernel
theorem d_BT_init_35 : decode prog_1_method_1_code 35 = .ok (.putfield 28, 3) := by decide +kernel
theorem d_BT_init_38 : decode prog_1_method_1_code 38 = .ok (.aload_n 0, 1) := by decide +kernel
theorem d_BT_init_39 : decode prog_1_method_1_code 39 = .ok (.iconst 0, 1) := by decide +kernel
theorem d_BT_init_40 : decode prog_1_method_1_code 40 = .ok (.putfield 32, 3) := by decide +kernel
theorem d_BT_init_43 : decode prog_1_method_1_code 43 = .ok (.aload_n 0, 1) := by decide +kernel
theorem d_BT_init_44 : decode prog_1_method_1_code 44 = .ok (.iconst 0, 1) := by decide +kernel
theorem d_BT_init_45 : decode prog_1_method_1_code 45 = .ok (.putfield 35, 3) := by decide +kernel
theorem d_BT_init_48 : decode prog_1_method_1_code 48 = .ok (.aload_n 0, 1) := by decide +kernel
theorem d_BT_init_49 : decode prog_1_method_1_code 49 = .ok (.iconst 0, 1) := by decide +kernel
theorem d_BT_init_50 : decode prog_1_method_1_code 50 = .ok (.putfield 38, 3) := by decide +kernel
theorem d_BT_init_53 : decode prog_1_method_1_code 53 = .ok (.aload_n 0, 1) := by decide +kernel
theorem d_BT_init_54 : decode prog_1_method_1_code 54 = .ok (.new 41, 3) := by decide +kernel
theorem d_BT_init_57 : decode prog_1_method_1_code 57 = .ok (.dup, 1) := by decide +kernel
theorem d_BT_init_58 : decode prog_1_method_1_code 58 = .ok (.invokespecial 43, 3) := by decide +kernel
theorem d_BT_init_61 : decode prog_1_method_1_code 61 = .ok (.putfield 44, 3) := by decide +kernel
theorem d_BT_init_64 : decode prog_1_method_1_code 64 = .ok (.aload_n 0, 1) := by decide +kernel
theorem d_BT_init_65 : decode prog_1_method_1_code 65 = .ok (.new 41, 3) := by decide +kernel
theorem d_BT_init_68 : decode prog_1_method_1_code 68 = .ok (.dup, 1) := by decide +kernel
theorem d_BT_init_69 : decode prog_1_method_1_code 69 = .ok (.invokespecial 43, 3) := by decide +kernel
theorem d_BT_init_72 : decode prog_1_method_1_code 72 = .ok (.putfield 48, 3) := by decide +kernel
theorem d_BT_init_75 : decode prog_1_method_1_code 75 = .ok (.aload_n 0, 1) := by decide +kernel
theorem d_BT_init_76 : decode prog_1_method_1_code 76 = .ok (.iconst 0, 1) := by decide +kernel
theorem d_BT_init_77 : decode prog_1_method_1_code 77 = .ok (.putfield 51, 3) := by decide +kernel
theorem d_BT_init_80 : decode prog_1_method_1_code 80 = .ok (.aload_n 0, 1) := by decide +kernel
theorem d_BT_init_81 : decode prog_1_method_1_code 81 = .ok (.iconst 0, 1) := by decide +kernel
theorem d_BT_init_82 : decode prog_1_method_1_code 82 = .ok (.putfield 55, 3) := by decide +kernel
theorem d_BT_init_85 : decode prog_1_method_1_code 85 = .ok (.aload_n 0, 1) := by decide +kernel
theorem d_BT_init_86 : decode prog_1_method_1_code 86 = .ok (.lconst 0, 1) := by decide +kernel
theorem d_BT_init_87 : decode prog_1_method_1_code 87 = .ok (.putfield 58, 3) := by decide +kernel
theorem d_BT_init_90 : decode prog_1_method_1_code 90 = .ok (.iconst 1, 1) := by decide +kernel
theorem d_BT_init_91 : decode prog_1_method_1_code 91 = .ok (.iload_n 1, 1) := by decide +kernel
theorem d_BT_init_92 : decode prog_1_method_1_code 92 = .ok (.ldc 62, 2) := by decide +kernel
theorem d_BT_init_94 : decode prog_1_method_1_code 94 = .ok (.invokestatic 63, 3) := by decide +kernel
theorem d_BT_init_97 : decode prog_1_method_1_code 97 = .ok (.invokestatic 69, 3) := by decide +kernel
theorem d_BT_init_100 : decode prog_1_method_1_code 100 = .ok (.istore_n 2, 1) := by decide +kernel
theorem d_BT_init_101 : decode prog_1_method_1_code 101 = .ok (.iconst 0, 1) := by decide +kernel
theorem d_BT_init_102 : decode prog_1_method_1_code 102 = .ok (.istore_n 3, 1) := by decide +kernel
theorem d_BT_init_103 : decode prog_1_method_1_code 103 = .ok (.iload_n 3, 1) := by decide +kernel
theorem d_BT_init_104 : decode prog_1_method_1_code 104 = .ok (.bipush 6, 2) := by decide +kernel
theorem d_BT_init_106 : decode prog_1_method_1_code 106 = .ok (.if_icmp .ge 23, 3) := by decide +kernel
theorem d_BT_init_109 : decode prog_1_method_1_code 109 = .ok (.aload_n 0, 1) := by decide +kernel
theorem d_BT_init_110 : decode prog_1_method_1_code 110 = .ok (.getfield 11, 3) := by decide +kernel
theorem d_BT_init_113 : decode prog_1_method_1_code 113 = .ok (.iload_n 3, 1) := by decide +kernel
theorem d_BT_init_114 : decode prog_1_method_1_code 114 = .ok (.new 9, 3) := by decide +kernel
theorem d_BT_init_117 : decode prog_1_method_1_code 117 = .ok (.dup, 1) := by decide +kernel
theorem d_BT_init_118 : decode prog_1_method_1_code 118 = .ok (.iload_n 2, 1) := by decide +kernel
theorem d_BT_init_119 : decode prog_1_method_1_code 119 = .ok (.invokespecial 72, 3) := by decide +kernel
theorem d_BT_init_122 : decode prog_1_method_1_code 122 = .ok (.aastore, 1) := by decide +kernel
theorem d_BT_init_123 : decode prog_1_method_1_code 123 = .ok (.iinc 3 1, 3) := by decide +kernel
theorem d_BT_init_126 : decode prog_1_method_1_code 126 = .ok (.goto (-23), 3) := by decide +kernel
theorem d_BT_init_129 : decode prog_1_method_1_code 129 = .ok (.iconst 0, 1) := by decide +kernel
theorem d_BT_init_130 : decode prog_1_method_1_code 130 = .ok (.istore_n 3, 1) := by decide +kernel
theorem d_BT_init_131 : decode prog_1_method_1_code 131 = .ok (.iload_n 3, 1) := by decide +kernel
theorem d_BT_init_132 : decode prog_1_method_1_code 132 = .ok (.bipush 8, 2) := by decide +kernel
theorem d_BT_init_134 : decode prog_1_method_1_code 134 = .ok (.if_icmp .ge 23, 3) := by decide +kernel
theorem d_BT_init_137 : decode prog_1_method_1_code 137 = .ok (.aload_n 0, 1) := by decide +kernel
theorem d_BT_init_138 : decode prog_1_method_1_code 138 = .ok (.getfield 17, 3) := by decide +kernel
theorem d_BT_init_141 : decode prog_1_method_1_code 141 = .ok (.iload_n 3, 1) := by decide +kernel
theorem d_BT_init_142 : decode prog_1_method_1_code 142 = .ok (.new 15, 3) := by decide +kernel
theorem d_BT_init_145 : decode prog_1_method_1_code 145 = .ok (.dup, 1) := by decide +kernel
theorem d_BT_init_146 : decode prog_1_method_1_code 146 = .ok (.iload_n 2, 1) := by decide +kernel
theorem d_BT_init_147 : decode prog_1_method_1_code 147 = .ok (.invokespecial 75, 3) := by decide +kernel
theorem d_BT_init_150 : decode prog_1_method_1_code 150 = .ok (.aastore, 1) := by decide +kernel
theorem d_BT_init_151 : decode prog_1_method_1_code 151 = .ok (.iinc 3 1, 3) := by decide +kernel
theorem d_BT_init_154 : decode prog_1_method_1_code 154 = .ok (.goto (-23), 3) := by decide +kernel
theorem d_BT_init_157 : decode prog_1_method_1_code 157 = .ok (.return_, 1) := by decide +kernel
theorem d_BT_stem_0 : decode prog_1_method_2_code 0 = .ok (.aload_n 0, 1) := by decide +kernel
theorem d_BT_stem_1 : decode prog_1_method_2_code 1 = .ok (.invokevirtual 76, 3) := by decide +kernel
theorem d_BT_stem_4 : decode prog_1_method_2_code 4 = .ok (.astore 4, 2) := by decide +kernel
theorem d_BT_stem_6 : decode prog_1_method_2_code 6 = .ok (.aload 4, 2) := by decide +kernel
theorem d_BT_stem_8 : decode prog_1_method_2_code 8 = .ok (.getfield 80, 3) := by decide +kernel
theorem d_BT_stem_11 : decode prog_1_method_2_code 11 = .ok (.bipush 60, 2) := by decide +kernel
theorem d_BT_stem_13 : decode prog_1_method_2_code 13 = .ok (.if_icmp .lt 13, 3) := by decide +kernel
theorem d_BT_stem_16 : decode prog_1_method_2_code 16 = .ok (.new 83, 3) := by decide +kernel
theorem d_BT_stem_19 : decode prog_1_method_2_code 19 = .ok (.dup, 1) := by decide +kernel
theorem d_BT_stem_20 : decode prog_1_method_2_code 20 = .ok (.ldc 85, 2) := by decide +kernel
theorem d_BT_stem_22 : decode prog_1_method_2_code 22 = .ok (.invokespecial 87, 3) := by decide +kernel
theorem d_BT_stem_25 : decode prog_1_method_2_code 25 = .ok (.athrow, 1) := by decide +kernel
theorem d_BT_stem_26 : decode prog_1_method_2_code 26 = .ok (.iload_n 1, 1) := by decide +kernel
theorem d_BT_stem_27 : decode prog_1_method_2_code 27 = .ok (.i2l, 1) := by decide +kernel
theorem d_BT_stem_28 : decode prog_1_method_2_code 28 = .ok (.ldc2_w 90, 3) := by decide +kernel
theorem d_BT_stem_31 : decode prog_1_method_2_code 31 = .ok (.invokestatic 92, 3) := by decide +kernel
theorem d_BT_stem_34 : decode prog_1_method_2_code 34 = .ok (.ifCond .ne 25, 3) := by decide +kernel
theorem d_BT_stem_37 : decode prog_1_method_2_code 37 = .ok (.iload_n 2, 1) := by decide +kernel
theorem d_BT_stem_38 : decode prog_1_method_2_code 38 = .ok (.i2l, 1) := by decide +kernel
theorem d_BT_stem_39 : decode prog_1_method_2_code 39 = .ok (.ldc2_w 96, 3) := by decide +kernel
theorem d_BT_stem_42 : decode prog_1_method_2_code 42 = .ok (.invokestatic 92, 3) := by decide +kernel
theorem d_BT_stem_45 : decode prog_1_method_2_code 45 = .ok (.ifCond .ne 14, 3) := by decide +kernel
theorem d_BT_stem_48 : decode prog_1_method_2_code 48 = .ok (.iload_n 3, 1) := by decide +kernel
theorem d_BT_stem_49 : decode prog_1_method_2_code 49 = .ok (.i2l, 1) := by decide +kernel
theorem d_BT_stem_50 : decode prog_1_method_2_code 50 = .ok (.ldc2_w 96, 3) := by decide +kernel
theorem d_BT_stem_53 : decode prog_1_method_2_code 53 = .ok (.invokestatic 92, 3) := by decide +kernel
theorem d_BT_stem_56 : decode prog_1_method_2_code 56 = .ok (.ifCond .eq 13, 3) := by decide +kernel
theorem d_BT_stem_59 : decode prog_1_method_2_code 59 = .ok (.new 98, 3) := by decide +kernel
theorem d_BT_stem_62 : decode prog_1_method_2_code 62 = .ok (.dup, 1) := by decide +kernel
theorem d_BT_stem_63 : decode prog_1_method_2_code 63 = .ok (.ldc 100, 2) := by decide +kernel
theorem d_BT_stem_65 : decode prog_1_method_2_code 65 = .ok (.invokespecial 102, 3) := by decide +kernel
theorem d_BT_stem_68 : decode prog_1_method_2_code 68 = .ok (.athrow, 1) := by decide +kernel
theorem d_BT_stem_69 : decode prog_1_method_2_code 69 = .ok (.aload 4, 2) := by decide +kernel
theorem d_BT_stem_71 : decode prog_1_method_2_code 71 = .ok (.iload_n 1, 1) := by decide +kernel
theorem d_BT_stem_72 : decode prog_1_method_2_code 72 = .ok (.iload_n 2, 1) := by decide +kernel
theorem d_BT_stem_73 : decode prog_1_method_2_code 73 = .ok (.invokevirtual 103, 3) := by decide +kernel
theorem d_BT_stem_76 : decode prog_1_method_2_code 76 = .ok (.ifCond .ne 5, 3) := by decide +kernel
theorem d_BT_stem_79 : decode prog_1_method_2_code 79 = .ok (.iconst 0, 1) := by decide +kernel
theorem d_BT_stem_80 : decode prog_1_method_2_code 80 = .ok (.ireturn, 1) := by decide +kernel
theorem d_BT_stem_81 : decode prog_1_method_2_code 81 = .ok (.aload 4, 2) := by decide +kernel
theorem d_BT_stem_83 : decode prog_1_method_2_code 83 = .ok (.iload_n 1, 1) := by decide +kernel
theorem d_BT_stem_84 : decode prog_1_method_2_code 84 = .ok (.iload_n 2, 1) := by decide +kernel
theorem d_BT_stem_85 : decode prog_1_method_2_code 85 = .ok (.iload_n 3, 1) := by decide +kernel
theorem d_BT_stem_86 : decode prog_1_method_2_code 86 = .ok (.invokevirtual 107, 3) := by decide +kernel
theorem d_BT_stem_89 : decode prog_1_method_2_code 89 = .ok (.aload_n 0, 1) := by decide +kernel
theorem d_BT_stem_90 : decode prog_1_method_2_code 90 = .ok (.iconst 0, 1) := by decide +kernel
theorem d_BT_stem_91 : decode prog_1_method_2_code 91 = .ok (.putfield 51, 3) := by decide +kernel
theorem d_BT_stem_94 : decode prog_1_method_2_code 94 = .ok (.iconst 1, 1) := by decide +kernel
theorem d_BT_stem_95 : decode prog_1_method_2_code 95 = .ok (.ireturn, 1) := by decide +kernel
theorem d_BT_fault_0 : decode prog_1_method_3_code 0 = .ok (.aload_n 0, 1) := by decide +kernel
theorem d_BT_fault_1 : decode prog_1_method_3_code 1 = .ok (.invokevirtual 76, 3) := by decide +kernel
theorem d_BT_fault_4 : decode prog_1_method_3_code 4 = .ok (.astore 4, 2) := by decide +kernel
theorem d_BT_fault_6 : decode prog_1_method_3_code 6 = .ok (.aload 4, 2) := by decide +kernel
theorem d_BT_fault_8 : decode prog_1_method_3_code 8 = .ok (.getfield 111, 3) := by decide +kernel
theorem d_BT_fault_11 : decode prog_1_method_3_code 11 = .ok (.bipush 20, 2) := by decide +kernel
theorem d_BT_fault_13 : decode prog_1_method_3_code 13 = .ok (.if_icmp .lt 13, 3) := by decide +kernel
theorem d_BT_fault_16 : decode prog_1_method_3_code 16 = .ok (.new 83, 3) := by decide +kernel
theorem d_BT_fault_19 : decode prog_1_method_3_code 19 = .ok (.dup, 1) := by decide +kernel
theorem d_BT_fault_20 : decode prog_1_method_3_code 20 = .ok (.ldc 114, 2) := by decide +kernel
theorem d_BT_fault_22 : decode prog_1_method_3_code 22 = .ok (.invokespecial 87, 3) := by decide +kernel
theorem d_BT_fault_25 : decode prog_1_method_3_code 25 = .ok (.athrow, 1) := by decide +kernel
theorem d_BT_fault_26 : decode prog_1_method_3_code 26 = .ok (.iload_n 1, 1) := by decide +kernel
theorem d_BT_fault_27 : decode prog_1_method_3_code 27 = .ok (.i2l, 1) := by decide +kernel
theorem d_BT_fault_28 : decode prog_1_method_3_code 28 = .ok (.ldc2_w 90, 3) := by decide +kernel
theorem d_BT_fault_31 : decode prog_1_method_3_code 31 = .ok (.invokestatic 92, 3) := by decide +kernel
theorem d_BT_fault_34 : decode prog_1_method_3_code 34 = .ok (.ifCond .ne 25, 3) := by decide +kernel
theorem d_BT_fault_37 : decode prog_1_method_3_code 37 = .ok (.iload_n 2, 1) := by decide +kernel
theorem d_BT_fault_38 : decode prog_1_method_3_code 38 = .ok (.i2l, 1) := by decide +kernel
theorem d_BT_fault_39 : decode prog_1_method_3_code 39 = .ok (.ldc2_w 90, 3) := by decide +kernel
theorem d_BT_fault_42 : decode prog_1_method_3_code 42 = .ok (.invokestatic 92, 3) := by decide +kernel
theorem d_BT_fault_45 : decode prog_1_method_3_code 45 = .ok (.ifCond .ne 14, 3) := by decide +kernel
theorem d_BT_fault_48 : decode prog_1_method_3_code 48 = .ok (.iload_n 3, 1) := by decide +kernel
theorem d_BT_fault_49 : decode prog_1_method_3_code 49 = .ok (.i2l, 1) := by decide +kernel
theorem d_BT_fault_50 : decode prog_1_method_3_code 50 = .ok (.ldc2_w 116, 3) := by decide +kernel
theorem d_BT_fault_53 : decode prog_1_method_3_code 53 = .ok (.invokestatic 92, 3) := by decide +kernel
theorem d_BT_fault_56 : decode prog_1_method_3_code 56 = .ok (.ifCond .eq 13, 3) := by decide +kernel
theorem d_BT_fault_59 : decode prog_1_method_3_code 59 = .ok (.new 98, 3) := by decide +kernel
theorem d_BT_fault_62 : decode prog_1_method_3_code 62 = .ok (.dup, 1) := by decide +kernel
theorem d_BT_fault_63 : decode prog_1_method_3_code 63 = .ok (.ldc 118, 2) := by decide +kernel
theorem d_BT_fault_65 : decode prog_1_method_3_code 65 = .ok (.invokespecial 102, 3) := by decide +kernel
theorem d_BT_fault_68 : decode prog_1_method_3_code 68 = .ok (.athrow, 1) := by decide +kernel
theorem d_BT_fault_69 : decode prog_1_method_3_code 69 = .ok (.iload_n 2, 1) := by decide +kernel
theorem d_BT_fault_70 : decode prog_1_method_3_code 70 = .ok (.iload_n 1, 1) := by decide +kernel
theorem d_BT_fault_71 : decode prog_1_method_3_code 71 = .ok (.if_icmp .gt 5, 3) := by decide +kernel
theorem d_BT_fault_74 : decode prog_1_method_3_code 74 = .ok (.iconst 0, 1) := by decide +kernel
theorem d_BT_fault_75 : decode prog_1_method_3_code 75 = .ok (.ireturn, 1) := by decide +kernel
theorem d_BT_fault_76 : decode prog_1_method_3_code 76 = .ok (.aload 4, 2) := by decide +kernel
theorem d_BT_fault_78 : decode prog_1_method_3_code 78 = .ok (.iload_n 1, 1) := by decide +kernel
theorem d_BT_fault_79 : decode prog_1_method_3_code 79 = .ok (.iload_n 2, 1) := by decide +kernel
theorem d_BT_fault_80 : decode prog_1_method_3_code 80 = .ok (.iload_n 3, 1) := by decide +kernel
theorem d_BT_fault_81 : decode prog_1_method_3_code 81 = .ok (.invokevirtual 120, 3) := by decide +kernel
theorem d_BT_fault_84 : decode prog_1_method_3_code 84 = .ok (.aload_n 0, 1) := by decide +kernel
theorem d_BT_fault_85 : decode prog_1_method_3_code 85 = .ok (.iconst 0, 1) := by decide +kernel
theorem d_BT_fault_86 : decode prog_1_method_3_code 86 = .ok (.putfield 51, 3) := by decide +kernel
theorem d_BT_fault_89 : decode prog_1_method_3_code 89 = .ok (.iconst 1, 1) := by decide +kernel
theorem d_BT_fault_90 : decode prog_1_method_3_code 90 = .ok (.ireturn, 1) := by decide +kernel
theorem d_BT_stems_0 : decode prog_1_method_4_code 0 = .ok (.aload_n 0, 1) := by decide +kernel
theorem d_BT_stems_1 : decode prog_1_method_4_code 1 = .ok (.getfield 28, 3) := by decide +kernel
theorem d_BT_stems_4 : decode prog_1_method_4_code 4 = .ok (.bipush 6, 2) := by decide +kernel
theorem d_BT_stems_6 : decode prog_1_method_4_code 6 = .ok (.if_icmp .lt 13, 3) := by decide +kernel
theorem d_BT_stems_9 : decode prog_1_method_4_code 9 = .ok (.new 83, 3) := by decide +kernel
theorem d_BT_stems_12 : decode prog_1_method_4_code 12 = .ok (.dup, 1) := by decide +kernel
theorem d_BT_stems_13 : decode prog_1_method_4_code 13 = .ok (.ldc 123, 2) := by decide +kernel
theorem d_BT_stems_15 : decode prog_1_method_4_code 15 = .ok (.invokespecial 87, 3) := by decide +kernel
theorem d_BT_stems_18 : decode prog_1_method_4_code 18 = .ok (.athrow, 1) := by decide +kernel
theorem d_BT_stems_19 : decode prog_1_method_4_code 19 = .ok (.aload_n 0, 1) := by decide +kernel
theorem d_BT_stems_20 : decode prog_1_method_4_code 20 = .ok (.dup, 1) := by decide +kernel
theorem d_BT_stems_21 : decode prog_1_method_4_code 21 = .ok (.getfield 28, 3) := by decide +kernel
theorem d_BT_stems_24 : decode prog_1_method_4_code 24 = .ok (.iconst 1, 1) := by decide +kernel
theorem d_BT_stems_25 : decode prog_1_method_4_code 25 = .ok (.iadd, 1) := by decide +kernel
theorem d_BT_stems_26 : decode prog_1_method_4_code 26 = .ok (.putfield 28, 3) := by decide +kernel
theorem d_BT_stems_29 : decode prog_1_method_4_code 29 = .ok (.aload_n 0, 1) := by decide +kernel
theorem d_BT_stems_30 : decode prog_1_method_4_code 30 = .ok (.iconst 0, 1) := by decide +kernel
theorem d_BT_stems_31 : decode prog_1_method_4_code 31 = .ok (.putfield 51, 3) := by decide +kernel
theorem d_BT_stems_34 : decode prog_1_method_4_code 34 = .ok (.aload_n 0, 1) := by decide +kernel
theorem d_BT_stems_35 : decode prog_1_method_4_code 35 = .ok (.getfield 28, 3) := by decide +kernel
theorem d_BT_stems_38 : decode prog_1_method_4_code 38 = .ok (.ireturn, 1) := by decide +kernel
theorem d_BT_product_0 : decode prog_1_method_5_code 0 = .ok (.aload_n 0, 1) := by decide +kernel
theorem d_BT_product_1 : decode prog_1_method_5_code 1 = .ok (.getfield 32, 3) := by decide +kernel
theorem d_BT_product_4 : decode prog_1_method_5_code 4 = .ok (.bipush 8, 2) := by decide +kernel
theorem d_BT_product_6 : decode prog_1_method_5_code 6 = .ok (.if_icmp .lt 13, 3) := by decide +kernel
theorem d_BT_product_9 : decode prog_1_method_5_code 9 = .ok (.new 83, 3) := by decide +kernel
theorem d_BT_product_12 : decode prog_1_method_5_code 12 = .ok (.dup, 1) := by decide +kernel
theorem d_BT_product_13 : decode prog_1_method_5_code 13 = .ok (.ldc 125, 2) := by decide +kernel
theorem d_BT_product_15 : decode prog_1_method_5_code 15 = .ok (.invokespecial 87, 3) := by decide +kernel
theorem d_BT_product_18 : decode prog_1_method_5_code 18 = .ok (.athrow, 1) := by decide +kernel
theorem d_BT_product_19 : decode prog_1_method_5_code 19 = .ok (.iload_n 1, 1) := by decide +kernel
theorem d_BT_product_20 : decode prog_1_method_5_code 20 = .ok (.iconst 1, 1) := by decide +kernel
theorem d_BT_product_21 : decode prog_1_method_5_code 21 = .ok (.if_icmp .lt 14, 3) := by decide +kernel
theorem d_BT_product_24 : decode prog_1_method_5_code 24 = .ok (.iload_n 2, 1) := by decide +kernel
theorem d_BT_product_25 : decode prog_1_method_5_code 25 = .ok (.ldc 127, 2) := by decide +kernel
theorem d_BT_product_27 : decode prog_1_method_5_code 27 = .ok (.if_icmp .gt 8, 3) := by decide +kernel
theorem d_BT_product_30 : decode prog_1_method_5_code 30 = .ok (.iload_n 1, 1) := by decide +kernel
theorem d_BT_product_31 : decode prog_1_method_5_code 31 = .ok (.iload_n 2, 1) := by decide +kernel
theorem d_BT_product_32 : decode prog_1_method_5_code 32 = .ok (.if_icmp .le 13, 3) := by decide +kernel
theorem d_BT_product_35 : decode prog_1_method_5_code 35 = .ok (.new 98, 3) := by decide +kernel
theorem d_BT_product_38 : decode prog_1_method_5_code 38 = .ok (.dup, 1) := by decide +kernel
theorem d_BT_product_39 : decode prog_1_method_5_code 39 = .ok (.ldc 128, 2) := by decide +kernel
theorem d_BT_product_41 : decode prog_1_method_5_code 41 = .ok (.invokespecial 102, 3) := by decide +kernel
theorem d_BT_product_44 : decode prog_1_method_5_code 44 = .ok (.athrow, 1) := by decide +kernel
theorem d_BT_product_45 : decode prog_1_method_5_code 45 = .ok (.iload_n 3, 1) := by decide +kernel
theorem d_BT_product_46 : decode prog_1_method_5_code 46 = .ok (.i2l, 1) := by decide +kernel
theorem d_BT_product_47 : decode prog_1_method_5_code 47 = .ok (.ldc2_w 96, 3) := by decide +kernel
theorem d_BT_product_50 : decode prog_1_method_5_code 50 = .ok (.invokestatic 92, 3) := by decide +kernel
theorem d_BT_product_53 : decode prog_1_method_5_code 53 = .ok (.ifCond .ne 26, 3) := by decide +kernel
theorem d_BT_product_56 : decode prog_1_method_5_code 56 = .ok (.iload 4, 2) := by decide +kernel
theorem d_BT_product_58 : decode prog_1_method_5_code 58 = .ok (.i2l, 1) := by decide +kernel
theorem d_BT_product_59 : decode prog_1_method_5_code 59 = .ok (.ldc2_w 96, 3) := by decide +kernel
theorem d_BT_product_62 : decode prog_1_method_5_code 62 = .ok (.invokestatic 92, 3) := by decide +kernel
theorem d_BT_product_65 : decode prog_1_method_5_code 65 = .ok (.ifCond .ne 14, 3) := by decide +kernel
theorem d_BT_product_68 : decode prog_1_method_5_code 68 = .ok (.lload 5, 2) := by decide +kernel
theorem d_BT_product_70 : decode prog_1_method_5_code 70 = .ok (.ldc2_w 96, 3) := by decide +kernel
theorem d_BT_product_73 : decode prog_1_method_5_code 73 = .ok (.invokestatic 92, 3) := by decide +kernel
theorem d_BT_product_76 : decode prog_1_method_5_code 76 = .ok (.ifCond .eq 13, 3) := by decide +kernel
theorem d_BT_product_79 : decode prog_1_method_5_code 79 = .ok (.new 98, 3) := by decide +kernel
theorem d_BT_product_82 : decode prog_1_method_5_code 82 = .ok (.dup, 1) := by decide +kernel
theorem d_BT_product_83 : decode prog_1_method_5_code 83 = .ok (.ldc 130, 2) := by decide +kernel
theorem d_BT_product_85 : decode prog_1_method_5_code 85 = .ok (.invokespecial 102, 3) := by decide +kernel
theorem d_BT_product_88 : decode prog_1_method_5_code 88 = .ok (.athrow, 1) := by decide +kernel
theorem d_BT_product_89 : decode prog_1_method_5_code 89 = .ok (.aload_n 0, 1) := by decide +kernel
theorem d_BT_product_90 : decode prog_1_method_5_code 90 = .ok (.getfield 17, 3) := by decide +kernel
theorem d_BT_product_93 : decode prog_1_method_5_code 93 = .ok (.aload_n 0, 1) := by decide +kernel
theorem d_BT_product_94 : decode prog_1_method_5_code 94 = .ok (.getfield 32, 3) := by decide +kernel
theorem d_BT_product_97 : decode prog_1_method_5_code 97 = .ok (.aaload, 1) := by decide +kernel
theorem d_BT_product_98 : decode prog_1_method_5_code 98 = .ok (.iload_n 1, 1) := by decide +kernel
theorem d_BT_product_99 : decode prog_1_method_5_code 99 = .ok (.iload_n 2, 1) := by decide +kernel
theorem d_BT_product_100 : decode prog_1_method_5_code 100 = .ok (.iload_n 3, 1) := by decide +kernel
theorem d_BT_product_101 : decode prog_1_method_5_code 101 = .ok (.iload 4, 2) := by decide +kernel
theorem d_BT_product_103 : decode prog_1_method_5_code 103 = .ok (.lload 5, 2) := by decide +kernel
theorem d_BT_product_105 : decode prog_1_method_5_code 105 = .ok (.invokevirtual 132, 3) := by decide +kernel
theorem d_BT_product_108 : decode prog_1_method_5_code 108 = .ok (.aload_n 0, 1) := by decide +kernel
theorem d_BT_product_109 : decode prog_1_method_5_code 109 = .ok (.dup, 1) := by decide +kernel
theorem d_BT_product_110 : decode prog_1_method_5_code 110 = .ok (.getfield 32, 3) := by decide +kernel
theorem d_BT_product_113 : decode prog_1_method_5_code 113 = .ok (.iconst 1, 1) := by decide +kernel
theorem d_BT_product_114 : decode prog_1_method_5_code 114 = .ok (.iadd, 1) := by decide +kernel
theorem d_BT_product_115 : decode prog_1_method_5_code 115 = .ok (.putfield 32, 3) := by decide +kernel
theorem d_BT_product_118 : decode prog_1_method_5_code 118 = .ok (.aload_n 0, 1) := by decide +kernel
theorem d_BT_product_119 : decode prog_1_method_5_code 119 = .ok (.iconst 0, 1) := by decide +kernel
theorem d_BT_product_120 : decode prog_1_method_5_code 120 = .ok (.putfield 51, 3) := by decide +kernel
theorem d_BT_product_123 : decode prog_1_method_5_code 123 = .ok (.aload_n 0, 1) := by decide +kernel
theorem d_BT_product_124 : decode prog_1_method_5_code 124 = .ok (.getfield 32, 3) := by decide +kernel
theorem d_BT_product_127 : decode prog_1_method_5_code 127 = .ok (.iconst 1, 1) := by decide +kernel
theorem d_BT_product_128 : decode prog_1_method_5_code 128 = .ok (.isub, 1) := by decide +kernel
theorem d_BT_product_129 : decode prog_1_method_5_code 129 = .ok (.ireturn, 1) := by decide +kernel
theorem d_BT_bars_0 : decode prog_1_method_6_code 0 = .ok (.aload_n 0, 1) := by decide +kernel
theorem d_BT_bars_1 : decode prog_1_method_6_code 1 = .ok (.iload_n 1, 1) := by decide +kernel
theorem d_BT_bars_2 : decode prog_1_method_6_code 2 = .ok (.invokevirtual 136, 3) := by decide +kernel
theorem d_BT_bars_5 : decode prog_1_method_6_code 5 = .ok (.astore_n 3, 1) := by decide +kernel
theorem d_BT_bars_6 : decode prog_1_method_6_code 6 = .ok (.iload_n 2, 1) := by decide +kernel
theorem d_BT_bars_7 : decode prog_1_method_6_code 7 = .ok (.i2l, 1) := by decide +kernel
theorem d_BT_bars_8 : decode prog_1_method_6_code 8 = .ok (.ldc2_w 116, 3) := by decide +kernel
theorem d_BT_bars_11 : decode prog_1_method_6_code 11 = .ok (.invokestatic 92, 3) := by decide +kernel
theorem d_BT_bars_14 : decode prog_1_method_6_code 14 = .ok (.ifCond .eq 13, 3) := by decide +kernel
theorem d_BT_bars_17 : decode prog_1_method_6_code 17 = .ok (.new 98, 3) := by decide +kernel
theorem d_BT_bars_20 : decode prog_1_method_6_code 20 = .ok (.dup, 1) := by decide +kernel
theorem d_BT_bars_21 : decode prog_1_method_6_code 21 = .ok (.ldc 140, 2) := by decide +kernel
theorem d_BT_bars_23 : decode prog_1_method_6_code 23 = .ok (.invokespecial 102, 3) := by decide +kernel
theorem d_BT_bars_26 : decode prog_1_method_6_code 26 = .ok (.athrow, 1) := by decide +kernel
theorem d_BT_bars_27 : decode prog_1_method_6_code 27 = .ok (.aload_n 3, 1) := by decide +kernel
theorem d_BT_bars_28 : decode prog_1_method_6_code 28 = .ok (.getfield 142, 3) := by decide +kernel
theorem d_BT_bars_31 : decode prog_1_method_6_code 31 = .ok (.iload_n 2, 1) := by decide +kernel
theorem d_BT_bars_32 : decode prog_1_method_6_code 32 = .ok (.baload, 1) := by decide +kernel
theorem d_BT_bars_33 : decode prog_1_method_6_code 33 = .ok (.ifCond .eq 5, 3) := by decide +kernel
theorem d_BT_bars_36 : decode prog_1_method_6_code 36 = .ok (.iconst 0, 1) := by decide +kernel
theorem d_BT_bars_37 : decode prog_1_method_6_code 37 = .ok (.ireturn, 1) := by decide +kernel
theorem d_BT_bars_38 : decode prog_1_method_6_code 38 = .ok (.aload_n 3, 1) := by decide +kernel
theorem d_BT_bars_39 : decode prog_1_method_6_code 39 = .ok (.getfield 142, 3) := by decide +kernel
theorem d_BT_bars_42 : decode prog_1_method_6_code 42 = .ok (.iload_n 2, 1) := by decide +kernel
theorem d_BT_bars_43 : decode prog_1_method_6_code 43 = .ok (.iconst 1, 1) := by decide +kernel
theorem d_BT_bars_44 : decode prog_1_method_6_code 44 = .ok (.bastore, 1) := by decide +kernel
theorem d_BT_bars_45 : decode prog_1_method_6_code 45 = .ok (.aload_n 0, 1) := by decide +kernel
theorem d_BT_bars_46 : decode prog_1_method_6_code 46 = .ok (.iconst 0, 1) := by decide +kernel
theorem d_BT_bars_47 : decode prog_1_method_6_code 47 = .ok (.putfield 51, 3) := by decide +kernel
theorem d_BT_bars_50 : decode prog_1_method_6_code 50 = .ok (.iconst 1, 1) := by decide +kernel
theorem d_BT_bars_51 : decode prog_1_method_6_code 51 = .ok (.ireturn, 1) := by decide +kernel
theorem d_BT_force_0 : decode prog_1_method_7_code 0 = .ok (.iload_n 1, 1) := by decide +kernel
theorem d_BT_force_1 : decode prog_1_method_7_code 1 = .ok (.i2l, 1) := by decide +kernel
theorem d_BT_force_2 : decode prog_1_method_7_code 2 = .ok (.ldc2_w 90, 3) := by decide +kernel
theorem d_BT_force_5 : decode prog_1_method_7_code 5 = .ok (.invokestatic 92, 3) := by decide +kernel
theorem d_BT_force_8 : decode prog_1_method_7_code 8 = .ok (.ifCond .eq 13, 3) := by decide +kernel
theorem d_BT_force_11 : decode prog_1_method_7_code 11 = .ok (.new 98, 3) := by decide +kernel
theorem d_BT_force_14 : decode prog_1_method_7_code 14 = .ok (.dup, 1) := by decide +kernel
theorem d_BT_force_15 : decode prog_1_method_7_code 15 = .ok (.ldc 146, 2) := by decide +kernel
theorem d_BT_force_17 : decode prog_1_method_7_code 17 = .ok (.invokespecial 102, 3) := by decide +kernel
theorem d_BT_force_20 : decode prog_1_method_7_code 20 = .ok (.athrow, 1) := by decide +kernel
theorem d_BT_force_21 : decode prog_1_method_7_code 21 = .ok (.aload_n 0, 1) := by decide +kernel
theorem d_BT_force_22 : decode prog_1_method_7_code 22 = .ok (.iload_n 1, 1) := by decide +kernel
theorem d_BT_force_23 : decode prog_1_method_7_code 23 = .ok (.invokevirtual 148, 3) := by decide +kernel
theorem d_BT_force_26 : decode prog_1_method_7_code 26 = .ok (.ifCond .ne 5, 3) := by decide +kernel
theorem d_BT_force_29 : decode prog_1_method_7_code 29 = .ok (.iconst 0, 1) := by decide +kernel
theorem d_BT_force_30 : decode prog_1_method_7_code 30 = .ok (.ireturn, 1) := by decide +kernel
theorem d_BT_force_31 : decode prog_1_method_7_code 31 = .ok (.aload_n 0, 1) := by decide +kernel
theorem d_BT_force_32 : decode prog_1_method_7_code 32 = .ok (.iconst 0, 1) := by decide +kernel
theorem d_BT_force_33 : decode prog_1_method_7_code 33 = .ok (.putfield 51, 3) := by decide +kernel
theorem d_BT_force_36 : decode prog_1_method_7_code 36 = .ok (.iconst 1, 1) := by decide +kernel
theorem d_BT_force_37 : decode prog_1_method_7_code 37 = .ok (.ireturn, 1) := by decide +kernel
theorem d_BT_margin_0 : decode prog_1_method_8_code 0 = .ok (.iload_n 1, 1) := by decide +kernel
theorem d_BT_margin_1 : decode prog_1_method_8_code 1 = .ok (.i2l, 1) := by decide +kernel
theorem d_BT_margin_2 : decode prog_1_method_8_code 2 = .ok (.ldc2_w 96, 3) := by decide +kernel
theorem d_BT_margin_5 : decode prog_1_method_8_code 5 = .ok (.invokestatic 92, 3) := by decide +kernel
theorem d_BT_margin_8 : decode prog_1_method_8_code 8 = .ok (.ifCond .eq 13, 3) := by decide +kernel
theorem d_BT_margin_11 : decode prog_1_method_8_code 11 = .ok (.new 98, 3) := by decide +kernel
theorem d_BT_margin_14 : decode prog_1_method_8_code 14 = .ok (.dup, 1) := by decide +kernel
theorem d_BT_margin_15 : decode prog_1_method_8_code 15 = .ok (.ldc 152, 2) := by decide +kernel
theorem d_BT_margin_17 : decode prog_1_method_8_code 17 = .ok (.invokespecial 102, 3) := by decide +kernel
theorem d_BT_margin_20 : decode prog_1_method_8_code 20 = .ok (.athrow, 1) := by decide +kernel
theorem d_BT_margin_21 : decode prog_1_method_8_code 21 = .ok (.aload_n 0, 1) := by decide +kernel
theorem d_BT_margin_22 : decode prog_1_method_8_code 22 = .ok (.getfield 35, 3) := by decide +kernel
theorem d_BT_margin_25 : decode prog_1_method_8_code 25 = .ok (.iload_n 1, 1) := by decide +kernel
theorem d_BT_margin_26 : decode prog_1_method_8_code 26 = .ok (.if_icmp .ne 5, 3) := by decide +kernel
theorem d_BT_margin_29 : decode prog_1_method_8_code 29 = .ok (.iconst 0, 1) := by decide +kernel
theorem d_BT_margin_30 : decode prog_1_method_8_code 30 = .ok (.ireturn, 1) := by decide +kernel
theorem d_BT_margin_31 : decode prog_1_method_8_code 31 = .ok (.aload_n 0, 1) := by decide +kernel
theorem d_BT_margin_32 : decode prog_1_method_8_code 32 = .ok (.iload_n 1, 1) := by decide +kernel
theorem d_BT_margin_33 : decode prog_1_method_8_code 33 = .ok (.putfield 35, 3) := by decide +kernel
theorem d_BT_margin_36 : decode prog_1_method_8_code 36 = .ok (.aload_n 0, 1) := by decide +kernel
theorem d_BT_margin_37 : decode prog_1_method_8_code 37 = .ok (.iconst 0, 1) := by decide +kernel
theorem d_BT_margin_38 : decode prog_1_method_8_code 38 = .ok (.putfield 51, 3) := by decide +kernel
theorem d_BT_margin_41 : decode prog_1_method_8_code 41 = .ok (.iconst 1, 1) := by decide +kernel
theorem d_BT_margin_42 : decode prog_1_method_8_code 42 = .ok (.ireturn, 1) := by decide +kernel
theorem d_BT_saw_0 : decode prog_1_method_9_code 0 = .ok (.iload_n 1, 1) := by decide +kernel
theorem d_BT_saw_1 : decode prog_1_method_9_code 1 = .ok (.i2l, 1) := by decide +kernel
theorem d_BT_saw_2 : decode prog_1_method_9_code 2 = .ok (.ldc2_w 154, 3) := by decide +kernel
theorem d_BT_saw_5 : decode prog_1_method_9_code 5 = .ok (.invokestatic 92, 3) := by decide +kernel
theorem d_BT_saw_8 : decode prog_1_method_9_code 8 = .ok (.ifCond .eq 13, 3) := by decide +kernel
theorem d_BT_saw_11 : decode prog_1_method_9_code 11 = .ok (.new 98, 3) := by decide +kernel
theorem d_BT_saw_14 : decode prog_1_method_9_code 14 = .ok (.dup, 1) := by decide +kernel
theorem d_BT_saw_15 : decode prog_1_method_9_code 15 = .ok (.ldc 156, 2) := by decide +kernel
theorem d_BT_saw_17 : decode prog_1_method_9_code 17 = .ok (.invokespecial 102, 3) := by decide +kernel
theorem d_BT_saw_20 : decode prog_1_method_9_code 20 = .ok (.athrow, 1) := by decide +kernel
theorem d_BT_saw_21 : decode prog_1_method_9_code 21 = .ok (.aload_n 0, 1) := by decide +kernel
theorem d_BT_saw_22 : decode prog_1_method_9_code 22 = .ok (.getfield 38, 3) := by decide +kernel
theorem d_BT_saw_25 : decode prog_1_method_9_code 25 = .ok (.iload_n 1, 1) := by decide +kernel
theorem d_BT_saw_26 : decode prog_1_method_9_code 26 = .ok (.if_icmp .ne 5, 3) := by decide +kernel
theorem d_BT_saw_29 : decode prog_1_method_9_code 29 = .ok (.iconst 0, 1) := by decide +kernel
theorem d_BT_saw_30 : decode prog_1_method_9_code 30 = .ok (.ireturn, 1) := by decide +kernel
theorem d_BT_saw_31 : decode prog_1_method_9_code 31 = .ok (.aload_n 0, 1) := by decide +kernel
theorem d_BT_saw_32 : decode prog_1_method_9_code 32 = .ok (.iload_n 1, 1) := by decide +kernel
theorem d_BT_saw_33 : decode prog_1_method_9_code 33 = .ok (.putfield 38, 3) := by decide +kernel
theorem d_BT_saw_36 : decode prog_1_method_9_code 36 = .ok (.aload_n 0, 1) := by decide +kernel
theorem d_BT_saw_37 : decode prog_1_method_9_code 37 = .ok (.iconst 0, 1) := by decide +kernel
theorem d_BT_saw_38 : decode prog_1_method_9_code 38 = .ok (.putfield 51, 3) := by decide +kernel
theorem d_BT_saw_41 : decode prog_1_method_9_code 41 = .ok (.iconst 1, 1) := by decide +kernel
theorem d_BT_saw_42 : decode prog_1_method_9_code 42 = .ok (.ireturn, 1) := by decide +kernel
theorem d_BT_limit_0 : decode prog_1_method_10_code 0 = .ok (.aload_n 0, 1) := by decide +kernel
theorem d_BT_limit_1 : decode prog_1_method_10_code 1 = .ok (.iload_n 1, 1) := by decide +kernel
theorem d_BT_limit_2 : decode prog_1_method_10_code 2 = .ok (.invokevirtual 136, 3) := by decide +kernel
theorem d_BT_limit_5 : decode prog_1_method_10_code 5 = .ok (.astore 4, 2) := by decide +kernel
theorem d_BT_limit_7 : decode prog_1_method_10_code 7 = .ok (.lload_n 2, 1) := by decide +kernel
theorem d_BT_limit_8 : decode prog_1_method_10_code 8 = .ok (.ldc2_w 158, 3) := by decide +kernel
theorem d_BT_limit_11 : decode prog_1_method_10_code 11 = .ok (.invokestatic 92, 3) := by decide +kernel
theorem d_BT_limit_14 : decode prog_1_method_10_code 14 = .ok (.ifCond .eq 13, 3) := by decide +kernel
theorem d_BT_limit_17 : decode prog_1_method_10_code 17 = .ok (.new 98, 3) := by decide +kernel
theorem d_BT_limit_20 : decode prog_1_method_10_code 20 = .ok (.dup, 1) := by decide +kernel
theorem d_BT_limit_21 : decode prog_1_method_10_code 21 = .ok (.ldc 160, 2) := by decide +kernel
theorem d_BT_limit_23 : decode prog_1_method_10_code 23 = .ok (.invokespecial 102, 3) := by decide +kernel
theorem d_BT_limit_26 : decode prog_1_method_10_code 26 = .ok (.athrow, 1) := by decide +kernel
theorem d_BT_limit_27 : decode prog_1_method_10_code 27 = .ok (.aload 4, 2) := by decide +kernel
theorem d_BT_limit_29 : decode prog_1_method_10_code 29 = .ok (.getfield 162, 3) := by decide +kernel
theorem d_BT_limit_32 : decode prog_1_method_10_code 32 = .ok (.lload_n 2, 1) := by decide +kernel
theorem d_BT_limit_33 : decode prog_1_method_10_code 33 = .ok (.lcmp, 1) := by decide +kernel
theorem d_BT_limit_34 : decode prog_1_method_10_code 34 = .ok (.ifCond .ne 5, 3) := by decide +kernel
theorem d_BT_limit_37 : decode prog_1_method_10_code 37 = .ok (.iconst 0, 1) := by decide +kernel
theorem d_BT_limit_38 : decode prog_1_method_10_code 38 = .ok (.ireturn, 1) := by decide +kernel
theorem d_BT_limit_39 : decode prog_1_method_10_code 39 = .ok (.aload 4, 2) := by decide +kernel
theorem d_BT_limit_41 : decode prog_1_method_10_code 41 = .ok (.lload_n 2, 1) := by decide +kernel
theorem d_BT_limit_42 : decode prog_1_method_10_code 42 = .ok (.putfield 162, 3) := by decide +kernel
theorem d_BT_limit_45 : decode prog_1_method_10_code 45 = .ok (.aload_n 0, 1) := by decide +kernel
theorem d_BT_limit_46 : decode prog_1_method_10_code 46 = .ok (.iconst 0, 1) := by decide +kernel
theorem d_BT_limit_47 : decode prog_1_method_10_code 47 = .ok (.putfield 51, 3) := by decide +kernel
theorem d_BT_limit_50 : decode prog_1_method_10_code 50 = .ok (.iconst 1, 1) := by decide +kernel
theorem d_BT_limit_51 : decode prog_1_method_10_code 51 = .ok (.ireturn, 1) := by decide +kernel
theorem d_BT_wish_0 : decode prog_1_method_11_code 0 = .ok (.aload_n 0, 1) := by decide +kernel
theorem d_BT_wish_1 : decode prog_1_method_11_code 1 = .ok (.iload_n 1, 1) := by decide +kernel
theorem d_BT_wish_2 : decode prog_1_method_11_code 2 = .ok (.invokevirtual 136, 3) := by decide +kernel
theorem d_BT_wish_5 : decode prog_1_method_11_code 5 = .ok (.astore 5, 2) := by decide +kernel
theorem d_BT_wish_7 : decode prog_1_method_11_code 7 = .ok (.iload_n 2, 1) := by decide +kernel
theorem d_BT_wish_8 : decode prog_1_method_11_code 8 = .ok (.i2l, 1) := by decide +kernel
theorem d_BT_wish_9 : decode prog_1_method_11_code 9 = .ok (.ldc2_w 165, 3) := by decide +kernel
theorem d_BT_wish_12 : decode prog_1_method_11_code 12 = .ok (.invokestatic 92, 3) := by decide +kernel
theorem d_BT_wish_15 : decode prog_1_method_11_code 15 = .ok (.ifCond .ne 13, 3) := by decide +kernel
theorem d_BT_wish_18 : decode prog_1_method_11_code 18 = .ok (.lload_n 3, 1) := by decide +kernel
theorem d_BT_wish_19 : decode prog_1_method_11_code 19 = .ok (.ldc2_w 96, 3) := by decide +kernel
theorem d_BT_wish_22 : decode prog_1_method_11_code 22 = .ok (.invokestatic 92, 3) := by decide +kernel
theorem d_BT_wish_25 : decode prog_1_method_11_code 25 = .ok (.ifCond .eq 13, 3) := by decide +kernel
theorem d_BT_wish_28 : decode prog_1_method_11_code 28 = .ok (.new 98, 3) := by decide +kernel
theorem d_BT_wish_31 : decode prog_1_method_11_code 31 = .ok (.dup, 1) := by decide +kernel
theorem d_BT_wish_32 : decode prog_1_method_11_code 32 = .ok (.ldc 167, 2) := by decide +kernel
theorem d_BT_wish_34 : decode prog_1_method_11_code 34 = .ok (.invokespecial 102, 3) := by decide +kernel
theorem d_BT_wish_37 : decode prog_1_method_11_code 37 = .ok (.athrow, 1) := by decide +kernel
theorem d_BT_wish_38 : decode prog_1_method_11_code 38 = .ok (.aload 5, 2) := by decide +kernel
theorem d_BT_wish_40 : decode prog_1_method_11_code 40 = .ok (.getfield 169, 3) := by decide +kernel
theorem d_BT_wish_43 : decode prog_1_method_11_code 43 = .ok (.iload_n 2, 1) := by decide +kernel
theorem d_BT_wish_44 : decode prog_1_method_11_code 44 = .ok (.laload, 1) := by decide +kernel
theorem d_BT_wish_45 : decode prog_1_method_11_code 45 = .ok (.lload_n 3, 1) := by decide +kernel
theorem d_BT_wish_46 : decode prog_1_method_11_code 46 = .ok (.lcmp, 1) := by decide +kernel
theorem d_BT_wish_47 : decode prog_1_method_11_code 47 = .ok (.ifCond .ne 5, 3) := by decide +kernel
theorem d_BT_wish_50 : decode prog_1_method_11_code 50 = .ok (.iconst 0, 1) := by decide +kernel
theorem d_BT_wish_51 : decode prog_1_method_11_code 51 = .ok (.ireturn, 1) := by decide +kernel
theorem d_BT_wish_52 : decode prog_1_method_11_code 52 = .ok (.aload 5, 2) := by decide +kernel
theorem d_BT_wish_54 : decode prog_1_method_11_code 54 = .ok (.getfield 169, 3) := by decide +kernel
theorem d_BT_wish_57 : decode prog_1_method_11_code 57 = .ok (.iload_n 2, 1) := by decide +kernel
theorem d_BT_wish_58 : decode prog_1_method_11_code 58 = .ok (.lload_n 3, 1) := by decide +kernel
theorem d_BT_wish_59 : decode prog_1_method_11_code 59 = .ok (.lastore, 1) := by decide +kernel
theorem d_BT_wish_60 : decode prog_1_method_11_code 60 = .ok (.aload_n 0, 1) := by decide +kernel
theorem d_BT_wish_61 : decode prog_1_method_11_code 61 = .ok (.iconst 0, 1) := by decide +kernel
theorem d_BT_wish_62 : decode prog_1_method_11_code 62 = .ok (.putfield 51, 3) := by decide +kernel
theorem d_BT_wish_65 : decode prog_1_method_11_code 65 = .ok (.iconst 1, 1) := by decide +kernel
theorem d_BT_wish_66 : decode prog_1_method_11_code 66 = .ok (.ireturn, 1) := by decide +kernel
theorem d_BT_run_0 : decode prog_1_method_12_code 0 = .ok (.aload_n 0, 1) := by decide +kernel
theorem d_BT_run_1 : decode prog_1_method_12_code 1 = .ok (.invokevirtual 173, 3) := by decide +kernel
theorem d_BT_run_4 : decode prog_1_method_12_code 4 = .ok (.aload_n 0, 1) := by decide +kernel
theorem d_BT_run_5 : decode prog_1_method_12_code 5 = .ok (.getfield 44, 3) := by decide +kernel
theorem d_BT_run_8 : decode prog_1_method_12_code 8 = .ok (.getfield 176, 3) := by decide +kernel
theorem d_BT_run_11 : decode prog_1_method_12_code 11 = .ok (.ireturn, 1) := by decide +kernel
theorem d_BT_priced_0 : decode prog_1_method_13_code 0 = .ok (.iload_n 1, 1) := by decide +kernel
theorem d_BT_priced_1 : decode prog_1_method_13_code 1 = .ok (.iconst 1, 1) := by decide +kernel
theorem d_BT_priced_2 : decode prog_1_method_13_code 2 = .ok (.if_icmp .lt 9, 3) := by decide +kernel
theorem d_BT_priced_5 : decode prog_1_method_13_code 5 = .ok (.iload_n 1, 1) := by decide +kernel
theorem d_BT_priced_6 : decode prog_1_method_13_code 6 = .ok (.bipush 10, 2) := by decide +kernel
theorem d_BT_priced_8 : decode prog_1_method_13_code 8 = .ok (.if_icmp .le 13, 3) := by decide +kernel
theorem d_BT_priced_11 : decode prog_1_method_13_code 11 = .ok (.new 98, 3) := by decide +kernel
theorem d_BT_priced_14 : decode prog_1_method_13_code 14 = .ok (.dup, 1) := by decide +kernel
theorem d_BT_priced_15 : decode prog_1_method_13_code 15 = .ok (.ldc 179, 2) := by decide +kernel
theorem d_BT_priced_17 : decode prog_1_method_13_code 17 = .ok (.invokespecial 102, 3) := by decide +kernel
theorem d_BT_priced_20 : decode prog_1_method_13_code 20 = .ok (.athrow, 1) := by decide +kernel
theorem d_BT_priced_21 : decode prog_1_method_13_code 21 = .ok (.aload_n 0, 1) := by decide +kernel
theorem d_BT_priced_22 : decode prog_1_method_13_code 22 = .ok (.iload_n 1, 1) := by decide +kernel
theorem d_BT_priced_23 : decode prog_1_method_13_code 23 = .ok (.invokevirtual 181, 3) := by decide +kernel
theorem d_BT_priced_26 : decode prog_1_method_13_code 26 = .ok (.ireturn, 1) := by decide +kernel
theorem d_BT_worth_0 : decode prog_1_method_14_code 0 = .ok (.aload_n 0, 1) := by decide +kernel
theorem d_BT_worth_1 : decode prog_1_method_14_code 1 = .ok (.invokevirtual 185, 3) := by decide +kernel
theorem d_BT_worth_4 : decode prog_1_method_14_code 4 = .ok (.aload_n 0, 1) := by decide +kernel
theorem d_BT_worth_5 : decode prog_1_method_14_code 5 = .ok (.getfield 44, 3) := by decide +kernel
theorem d_BT_worth_8 : decode prog_1_method_14_code 8 = .ok (.getfield 188, 3) := by decide +kernel
theorem d_BT_worth_11 : decode prog_1_method_14_code 11 = .ok (.lreturn, 1) := by decide +kernel
theorem d_BT_log_0 : decode prog_1_method_15_code 0 = .ok (.aload_n 0, 1) := by decide +kernel
theorem d_BT_log_1 : decode prog_1_method_15_code 1 = .ok (.invokevirtual 185, 3) := by decide +kernel
theorem d_BT_log_4 : decode prog_1_method_15_code 4 = .ok (.iload_n 1, 1) := by decide +kernel
theorem d_BT_log_5 : decode prog_1_method_15_code 5 = .ok (.aload_n 0, 1) := by decide +kernel
theorem d_BT_log_6 : decode prog_1_method_15_code 6 = .ok (.getfield 44, 3) := by decide +kernel
theorem d_BT_log_9 : decode prog_1_method_15_code 9 = .ok (.getfield 176, 3) := by decide +kernel
theorem d_BT_log_12 : decode prog_1_method_15_code 12 = .ok (.invokestatic 191, 3) := by decide +kernel
theorem d_BT_log_15 : decode prog_1_method_15_code 15 = .ok (.iload_n 2, 1) := by decide +kernel
theorem d_BT_log_16 : decode prog_1_method_15_code 16 = .ok (.iconst 5, 1) := by decide +kernel
theorem d_BT_log_17 : decode prog_1_method_15_code 17 = .ok (.invokestatic 195, 3) := by decide +kernel
theorem d_BT_log_20 : decode prog_1_method_15_code 20 = .ok (.iload_n 1, 1) := by decide +kernel
theorem d_BT_log_21 : decode prog_1_method_15_code 21 = .ok (.iconst (-1), 1) := by decide +kernel
theorem d_BT_log_22 : decode prog_1_method_15_code 22 = .ok (.if_icmp .ne 13, 3) := by decide +kernel
theorem d_BT_log_25 : decode prog_1_method_15_code 25 = .ok (.aload_n 0, 1) := by decide +kernel
theorem d_BT_log_26 : decode prog_1_method_15_code 26 = .ok (.getfield 44, 3) := by decide +kernel
theorem d_BT_log_29 : decode prog_1_method_15_code 29 = .ok (.getfield 176, 3) := by decide +kernel
theorem d_BT_log_32 : decode prog_1_method_15_code 32 = .ok (.goto 12, 3) := by decide +kernel
theorem d_BT_log_35 : decode prog_1_method_15_code 35 = .ok (.aload_n 0, 1) := by decide +kernel
theorem d_BT_log_36 : decode prog_1_method_15_code 36 = .ok (.getfield 44, 3) := by decide +kernel
theorem d_BT_log_39 : decode prog_1_method_15_code 39 = .ok (.iload_n 1, 1) := by decide +kernel
theorem d_BT_log_40 : decode prog_1_method_15_code 40 = .ok (.iload_n 2, 1) := by decide +kernel
theorem d_BT_log_41 : decode prog_1_method_15_code 41 = .ok (.invokevirtual 198, 3) := by decide +kernel
theorem d_BT_log_44 : decode prog_1_method_15_code 44 = .ok (.ireturn, 1) := by decide +kernel
theorem d_BT_fuel_0 : decode prog_1_method_16_code 0 = .ok (.aload_n 0, 1) := by decide +kernel
theorem d_BT_fuel_1 : decode prog_1_method_16_code 1 = .ok (.invokevirtual 185, 3) := by decide +kernel
theorem d_BT_fuel_4 : decode prog_1_method_16_code 4 = .ok (.aload_n 0, 1) := by decide +kernel
theorem d_BT_fuel_5 : decode prog_1_method_16_code 5 = .ok (.getfield 44, 3) := by decide +kernel
theorem d_BT_fuel_8 : decode prog_1_method_16_code 8 = .ok (.invokevirtual 201, 3) := by decide +kernel
theorem d_BT_fuel_11 : decode prog_1_method_16_code 11 = .ok (.istore_n 3, 1) := by decide +kernel
theorem d_BT_fuel_12 : decode prog_1_method_16_code 12 = .ok (.iload_n 1, 1) := by decide +kernel
theorem d_BT_fuel_13 : decode prog_1_method_16_code 13 = .ok (.iload_n 3, 1) := by decide +kernel
theorem d_BT_fuel_14 : decode prog_1_method_16_code 14 = .ok (.invokestatic 191, 3) := by decide +kernel
theorem d_BT_fuel_17 : decode prog_1_method_16_code 17 = .ok (.iload_n 2, 1) := by decide +kernel
theorem d_BT_fuel_18 : decode prog_1_method_16_code 18 = .ok (.iconst 3, 1) := by decide +kernel
theorem d_BT_fuel_19 : decode prog_1_method_16_code 19 = .ok (.invokestatic 195, 3) := by decide +kernel
theorem d_BT_fuel_22 : decode prog_1_method_16_code 22 = .ok (.iload_n 1, 1) := by decide +kernel
theorem d_BT_fuel_23 : decode prog_1_method_16_code 23 = .ok (.iconst (-1), 1) := by decide +kernel
theorem d_BT_fuel_24 : decode prog_1_method_16_code 24 = .ok (.if_icmp .ne 7, 3) := by decide +kernel
theorem d_BT_fuel_27 : decode prog_1_method_16_code 27 = .ok (.iload_n 3, 1) := by decide +kernel
theorem d_BT_fuel_28 : decode prog_1_method_16_code 28 = .ok (.goto 12, 3) := by decide +kernel
theorem d_BT_fuel_31 : decode prog_1_method_16_code 31 = .ok (.aload_n 0, 1) := by decide +kernel
theorem d_BT_fuel_32 : decode prog_1_method_16_code 32 = .ok (.getfield 44, 3) := by decide +kernel
theorem d_BT_fuel_35 : decode prog_1_method_16_code 35 = .ok (.iload_n 1, 1) := by decide +kernel
theorem d_BT_fuel_36 : decode prog_1_method_16_code 36 = .ok (.iload_n 2, 1) := by decide +kernel
theorem d_BT_fuel_37 : decode prog_1_method_16_code 37 = .ok (.invokevirtual 205, 3) := by decide +kernel
theorem d_BT_fuel_40 : decode prog_1_method_16_code 40 = .ok (.ireturn, 1) := by decide +kernel
theorem d_BT_bound_0 : decode prog_1_method_17_code 0 = .ok (.aload_n 0, 1) := by decide +kernel
theorem d_BT_bound_1 : decode prog_1_method_17_code 1 = .ok (.invokevirtual 185, 3) := by decide +kernel
theorem d_BT_bound_4 : decode prog_1_method_17_code 4 = .ok (.aload_n 0, 1) := by decide +kernel
theorem d_BT_bound_5 : decode prog_1_method_17_code 5 = .ok (.getfield 58, 3) := by decide +kernel
theorem d_BT_bound_8 : decode prog_1_method_17_code 8 = .ok (.lreturn, 1) := by decide +kernel
theorem d_BT_price_0 : decode prog_1_method_18_code 0 = .ok (.aload_n 0, 1) := by decide +kernel
theorem d_BT_price_1 : decode prog_1_method_18_code 1 = .ok (.invokevirtual 185, 3) := by decide +kernel
theorem d_BT_price_4 : decode prog_1_method_18_code 4 = .ok (.aload_n 0, 1) := by decide +kernel
theorem d_BT_price_5 : decode prog_1_method_18_code 5 = .ok (.iload_n 1, 1) := by decide +kernel
theorem d_BT_price_6 : decode prog_1_method_18_code 6 = .ok (.invokevirtual 136, 3) := by decide +kernel
theorem d_BT_price_9 : decode prog_1_method_18_code 9 = .ok (.astore_n 3, 1) := by decide +kernel
theorem d_BT_price_10 : decode prog_1_method_18_code 10 = .ok (.iload_n 2, 1) := by decide +kernel
theorem d_BT_price_11 : decode prog_1_method_18_code 11 = .ok (.i2l, 1) := by decide +kernel
theorem d_BT_price_12 : decode prog_1_method_18_code 12 = .ok (.ldc2_w 208, 3) := by decide +kernel
theorem d_BT_price_15 : decode prog_1_method_18_code 15 = .ok (.invokestatic 92, 3) := by decide +kernel
theorem d_BT_price_18 : decode prog_1_method_18_code 18 = .ok (.ifCond .eq 13, 3) := by decide +kernel
theorem d_BT_price_21 : decode prog_1_method_18_code 21 = .ok (.new 210, 3) := by decide +kernel
theorem d_BT_price_24 : decode prog_1_method_18_code 24 = .ok (.dup, 1) := by decide +kernel
theorem d_BT_price_25 : decode prog_1_method_18_code 25 = .ok (.ldc 212, 2) := by decide +kernel
theorem d_BT_price_27 : decode prog_1_method_18_code 27 = .ok (.invokespecial 214, 3) := by decide +kernel
theorem d_BT_price_30 : decode prog_1_method_18_code 30 = .ok (.athrow, 1) := by decide +kernel
theorem d_BT_price_31 : decode prog_1_method_18_code 31 = .ok (.iload_n 2, 1) := by decide +kernel
theorem d_BT_price_32 : decode prog_1_method_18_code 32 = .ok (.ifCond .ne 8, 3) := by decide +kernel
theorem d_BT_price_35 : decode prog_1_method_18_code 35 = .ok (.aload_n 3, 1) := by decide +kernel
theorem d_BT_price_36 : decode prog_1_method_18_code 36 = .ok (.getfield 215, 3) := by decide +kernel
theorem d_BT_price_39 : decode prog_1_method_18_code 39 = .ok (.lreturn, 1) := by decide +kernel
theorem d_BT_price_40 : decode prog_1_method_18_code 40 = .ok (.iload_n 2, 1) := by decide +kernel
theorem d_BT_price_41 : decode prog_1_method_18_code 41 = .ok (.iconst 1, 1) := by decide +kernel
theorem d_BT_price_42 : decode prog_1_method_18_code 42 = .ok (.if_icmp .ne 16, 3) := by decide +kernel
theorem d_BT_price_45 : decode prog_1_method_18_code 45 = .ok (.aload_n 0, 1) := by decide +kernel
theorem d_BT_price_46 : decode prog_1_method_18_code 46 = .ok (.getfield 44, 3) := by decide +kernel
theorem d_BT_price_49 : decode prog_1_method_18_code 49 = .ok (.getfield 218, 3) := by decide +kernel
theorem d_BT_price_52 : decode prog_1_method_18_code 52 = .ok (.iload_n 1, 1) := by decide +kernel
theorem d_BT_price_53 : decode prog_1_method_18_code 53 = .ok (.iaload, 1) := by decide +kernel
theorem d_BT_price_54 : decode prog_1_method_18_code 54 = .ok (.i2l, 1) := by decide +kernel
theorem d_BT_price_55 : decode prog_1_method_18_code 55 = .ok (.goto 7, 3) := by decide +kernel
theorem d_BT_price_58 : decode prog_1_method_18_code 58 = .ok (.aload_n 3, 1) := by decide +kernel
theorem d_BT_price_59 : decode prog_1_method_18_code 59 = .ok (.getfield 162, 3) := by decide +kernel
theorem d_BT_price_62 : decode prog_1_method_18_code 62 = .ok (.lreturn, 1) := by decide +kernel
theorem d_BT_override_0 : decode prog_1_method_19_code 0 = .ok (.aload_n 0, 1) := by decide +kernel
theorem d_BT_override_1 : decode prog_1_method_19_code 1 = .ok (.invokevirtual 185, 3) := by decide +kernel
theorem d_BT_override_4 : decode prog_1_method_19_code 4 = .ok (.aload_n 0, 1) := by decide +kernel
theorem d_BT_override_5 : decode prog_1_method_19_code 5 = .ok (.iload_n 1, 1) := by decide +kernel
theorem d_BT_override_6 : decode prog_1_method_19_code 6 = .ok (.invokevirtual 148, 3) := by decide +kernel
theorem d_BT_override_9 : decode prog_1_method_19_code 9 = .ok (.ifCond .ne 13, 3) := by decide +kernel
theorem d_BT_override_12 : decode prog_1_method_19_code 12 = .ok (.new 98, 3) := by decide +kernel
theorem d_BT_override_15 : decode prog_1_method_19_code 15 = .ok (.dup, 1) := by decide +kernel
theorem d_BT_override_16 : decode prog_1_method_19_code 16 = .ok (.ldc 222, 2) := by decide +kernel
theorem d_BT_override_18 : decode prog_1_method_19_code 18 = .ok (.invokespecial 102, 3) := by decide +kernel
theorem d_BT_override_21 : decode prog_1_method_19_code 21 = .ok (.athrow, 1) := by decide +kernel
theorem d_BT_override_22 : decode prog_1_method_19_code 22 = .ok (.aload_n 0, 1) := by decide +kernel
theorem d_BT_override_23 : decode prog_1_method_19_code 23 = .ok (.getfield 44, 3) := by decide +kernel
theorem d_BT_override_26 : decode prog_1_method_19_code 26 = .ok (.getfield 188, 3) := by decide +kernel
theorem d_BT_override_29 : decode prog_1_method_19_code 29 = .ok (.lstore_n 2, 1) := by decide +kernel
theorem d_BT_override_30 : decode prog_1_method_19_code 30 = .ok (.aload_n 0, 1) := by decide +kernel
theorem d_BT_override_31 : decode prog_1_method_19_code 31 = .ok (.getfield 55, 3) := by decide +kernel
theorem d_BT_override_34 : decode prog_1_method_19_code 34 = .ok (.ifCond .ne 10, 3) := by decide +kernel
theorem d_BT_override_37 : decode prog_1_method_19_code 37 = .ok (.aload_n 0, 1) := by decide +kernel
theorem d_BT_override_38 : decode prog_1_method_19_code 38 = .ok (.invokevirtual 173, 3) := by decide +kernel
theorem d_BT_override_41 : decode prog_1_method_19_code 41 = .ok (.goto 12, 3) := by decide +kernel
theorem d_BT_override_44 : decode prog_1_method_19_code 44 = .ok (.aload_n 0, 1) := by decide +kernel
theorem d_BT_override_45 : decode prog_1_method_19_code 45 = .ok (.aload_n 0, 1) := by decide +kernel
theorem d_BT_override_46 : decode prog_1_method_19_code 46 = .ok (.getfield 55, 3) := by decide +kernel
theorem d_BT_override_49 : decode prog_1_method_19_code 49 = .ok (.invokevirtual 181, 3) := by decide +kernel
theorem d_BT_override_52 : decode prog_1_method_19_code 52 = .ok (.pop, 1) := by decide +kernel
theorem d_BT_override_53 : decode prog_1_method_19_code 53 = .ok (.lload_n 2, 1) := by decide +kernel
theorem d_BT_override_54 : decode prog_1_method_19_code 54 = .ok (.aload_n 0, 1) := by decide +kernel
theorem d_BT_override_55 : decode prog_1_method_19_code 55 = .ok (.getfield 44, 3) := by decide +kernel
theorem d_BT_override_58 : decode prog_1_method_19_code 58 = .ok (.getfield 188, 3) := by decide +kernel
theorem d_BT_override_61 : decode prog_1_method_19_code 61 = .ok (.lsub, 1) := by decide +kernel
theorem d_BT_override_62 : decode prog_1_method_19_code 62 = .ok (.l2i, 1) := by decide +kernel
theorem d_BT_override_63 : decode prog_1_method_19_code 63 = .ok (.ireturn, 1) := by decide +kernel
theorem d_BT_greatest_0 : decode prog_1_method_20_code 0 = .ok (.aload_n 0, 1) := by decide +kernel
theorem d_BT_greatest_1 : decode prog_1_method_20_code 1 = .ok (.invokevirtual 185, 3) := by decide +kernel
theorem d_BT_greatest_4 : decode prog_1_method_20_code 4 = .ok (.aload_n 0, 1) := by decide +kernel
theorem d_BT_greatest_5 : decode prog_1_method_20_code 5 = .ok (.getfield 44, 3) := by decide +kernel
theorem d_BT_greatest_8 : decode prog_1_method_20_code 8 = .ok (.getfield 188, 3) := by decide +kernel
theorem d_BT_greatest_11 : decode prog_1_method_20_code 11 = .ok (.aload_n 0, 1) := by decide +kernel
theorem d_BT_greatest_12 : decode prog_1_method_20_code 12 = .ok (.getfield 58, 3) := by decide +kernel
theorem d_BT_greatest_15 : decode prog_1_method_20_code 15 = .ok (.lcmp, 1) := by decide +kernel
theorem d_BT_greatest_16 : decode prog_1_method_20_code 16 = .ok (.ifCond .ne 7, 3) := by decide +kernel
theorem d_BT_greatest_19 : decode prog_1_method_20_code 19 = .ok (.iconst 1, 1) := by decide +kernel
theorem d_BT_greatest_20 : decode prog_1_method_20_code 20 = .ok (.goto 4, 3) := by decide +kernel
theorem d_BT_greatest_23 : decode prog_1_method_20_code 23 = .ok (.iconst 0, 1) := by decide +kernel
theorem d_BT_greatest_24 : decode prog_1_method_20_code 24 = .ok (.ireturn, 1) := by decide +kernel
theorem d_BT_isOutside_0 : decode prog_1_method_21_code 0 = .ok (.lload_n 0, 1) := by decide +kernel
theorem d_BT_isOutside_1 : decode prog_1_method_21_code 1 = .ok (.lconst 0, 1) := by decide +kernel
theorem d_BT_isOutside_2 : decode prog_1_method_21_code 2 = .ok (.lcmp, 1) := by decide +kernel
theorem d_BT_isOutside_3 : decode prog_1_method_21_code 3 = .ok (.ifCond .lt 9, 3) := by decide +kernel
theorem d_BT_isOutside_6 : decode prog_1_method_21_code 6 = .ok (.lload_n 0, 1) := by decide +kernel
theorem d_BT_isOutside_7 : decode prog_1_method_21_code 7 = .ok (.lload_n 2, 1) := by decide +kernel
theorem d_BT_isOutside_8 : decode prog_1_method_21_code 8 = .ok (.lcmp, 1) := by decide +kernel
theorem d_BT_isOutside_9 : decode prog_1_method_21_code 9 = .ok (.ifCond .le 7, 3) := by decide +kernel
theorem d_BT_isOutside_12 : decode prog_1_method_21_code 12 = .ok (.iconst 1, 1) := by decide +kernel
theorem d_BT_isOutside_13 : decode prog_1_method_21_code 13 = .ok (.goto 4, 3) := by decide +kernel
theorem d_BT_isOutside_16 : decode prog_1_method_21_code 16 = .ok (.iconst 0, 1) := by decide +kernel
theorem d_BT_isOutside_17 : decode prog_1_method_21_code 17 = .ok (.ireturn, 1) := by decide +kernel
theorem d_BT_latestStem_0 : decode prog_1_method_22_code 0 = .ok (.aload_n 0, 1) := by decide +kernel
theorem d_BT_latestStem_1 : decode prog_1_method_22_code 1 = .ok (.getfield 11, 3) := by decide +kernel
theorem d_BT_latestStem_4 : decode prog_1_method_22_code 4 = .ok (.aload_n 0, 1) := by decide +kernel
theorem d_BT_latestStem_5 : decode prog_1_method_22_code 5 = .ok (.getfield 28, 3) := by decide +kernel
theorem d_BT_latestStem_8 : decode prog_1_method_22_code 8 = .ok (.iconst 1, 1) := by decide +kernel
theorem d_BT_latestStem_9 : decode prog_1_method_22_code 9 = .ok (.isub, 1) := by decide +kernel
theorem d_BT_latestStem_10 : decode prog_1_method_22_code 10 = .ok (.aaload, 1) := by decide +kernel
theorem d_BT_latestStem_11 : decode prog_1_method_22_code 11 = .ok (.areturn, 1) := by decide +kernel
theorem d_BT_productAt_0 : decode prog_1_method_23_code 0 = .ok (.iload_n 1, 1) := by decide +kernel
theorem d_BT_productAt_1 : decode prog_1_method_23_code 1 = .ok (.i2l, 1) := by decide +kernel
theorem d_BT_productAt_2 : decode prog_1_method_23_code 2 = .ok (.aload_n 0, 1) := by decide +kernel
theorem d_BT_productAt_3 : decode prog_1_method_23_code 3 = .ok (.getfield 32, 3) := by decide +kernel
theorem d_BT_productAt_6 : decode prog_1_method_23_code 6 = .ok (.iconst 1, 1) := by decide +kernel
theorem d_BT_productAt_7 : decode prog_1_method_23_code 7 = .ok (.isub, 1) := by decide +kernel
theorem d_BT_productAt_8 : decode prog_1_method_23_code 8 = .ok (.i2l, 1) := by decide +kernel
theorem d_BT_productAt_9 : decode prog_1_method_23_code 9 = .ok (.invokestatic 92, 3) := by decide +kernel
theorem d_BT_productAt_12 : decode prog_1_method_23_code 12 = .ok (.ifCond .eq 13, 3) := by decide +kernel
theorem d_BT_productAt_15 : decode prog_1_method_23_code 15 = .ok (.new 210, 3) := by decide +kernel
theorem d_BT_productAt_18 : decode prog_1_method_23_code 18 = .ok (.dup, 1) := by decide +kernel
theorem d_BT_productAt_19 : decode prog_1_method_23_code 19 = .ok (.ldc 224, 2) := by decide +kernel
theorem d_BT_productAt_21 : decode prog_1_method_23_code 21 = .ok (.invokespecial 214, 3) := by decide +kernel
theorem d_BT_productAt_24 : decode prog_1_method_23_code 24 = .ok (.athrow, 1) := by decide +kernel
theorem d_BT_productAt_25 : decode prog_1_method_23_code 25 = .ok (.aload_n 0, 1) := by decide +kernel
theorem d_BT_productAt_26 : decode prog_1_method_23_code 26 = .ok (.getfield 17, 3) := by decide +kernel
theorem d_BT_productAt_29 : decode prog_1_method_23_code 29 = .ok (.iload_n 1, 1) := by decide +kernel
theorem d_BT_productAt_30 : decode prog_1_method_23_code 30 = .ok (.aaload, 1) := by decide +kernel
theorem d_BT_productAt_31 : decode prog_1_method_23_code 31 = .ok (.areturn, 1) := by decide +kernel
theorem d_BT_needPlan_0 : decode prog_1_method_24_code 0 = .ok (.aload_n 0, 1) := by decide +kernel
theorem d_BT_needPlan_1 : decode prog_1_method_24_code 1 = .ok (.getfield 51, 3) := by decide +kernel
theorem d_BT_needPlan_4 : decode prog_1_method_24_code 4 = .ok (.ifCond .ne 13, 3) := by decide +kernel
theorem d_BT_needPlan_7 : decode prog_1_method_24_code 7 = .ok (.new 83, 3) := by decide +kernel
theorem d_BT_needPlan_10 : decode prog_1_method_24_code 10 = .ok (.dup, 1) := by decide +kernel
theorem d_BT_needPlan_11 : decode prog_1_method_24_code 11 = .ok (.ldc 226, 2) := by decide +kernel
theorem d_BT_needPlan_13 : decode prog_1_method_24_code 13 = .ok (.invokespecial 87, 3) := by decide +kernel
theorem d_BT_needPlan_16 : decode prog_1_method_24_code 16 = .ok (.athrow, 1) := by decide +kernel
theorem d_BT_needPlan_17 : decode prog_1_method_24_code 17 = .ok (.return_, 1) := by decide +kernel
theorem d_BT_needRow_0 : decode prog_1_method_25_code 0 = .ok (.iload_n 0, 1) := by decide +kernel
theorem d_BT_needRow_1 : decode prog_1_method_25_code 1 = .ok (.iconst (-1), 1) := by decide +kernel
theorem d_BT_needRow_2 : decode prog_1_method_25_code 2 = .ok (.if_icmp .eq 25, 3) := by decide +kernel
theorem d_BT_needRow_5 : decode prog_1_method_25_code 5 = .ok (.iload_n 0, 1) := by decide +kernel
theorem d_BT_needRow_6 : decode prog_1_method_25_code 6 = .ok (.i2l, 1) := by decide +kernel
theorem d_BT_needRow_7 : decode prog_1_method_25_code 7 = .ok (.iload_n 1, 1) := by decide +kernel
theorem d_BT_needRow_8 : decode prog_1_method_25_code 8 = .ok (.iconst 1, 1) := by decide +kernel
theorem d_BT_needRow_9 : decode prog_1_method_25_code 9 = .ok (.isub, 1) := by decide +kernel
theorem d_BT_needRow_10 : decode prog_1_method_25_code 10 = .ok (.i2l, 1) := by decide +kernel
theorem d_BT_needRow_11 : decode prog_1_method_25_code 11 = .ok (.invokestatic 92, 3) := by decide +kernel
theorem d_BT_needRow_14 : decode prog_1_method_25_code 14 = .ok (.ifCond .eq 13, 3) := by decide +kernel
theorem d_BT_needRow_17 : decode prog_1_method_25_code 17 = .ok (.new 210, 3) := by decide +kernel
theorem d_BT_needRow_20 : decode prog_1_method_25_code 20 = .ok (.dup, 1) := by decide +kernel
theorem d_BT_needRow_21 : decode prog_1_method_25_code 21 = .ok (.ldc 228, 2) := by decide +kernel
theorem d_BT_needRow_23 : decode prog_1_method_25_code 23 = .ok (.invokespecial 214, 3) := by decide +kernel
theorem d_BT_needRow_26 : decode prog_1_method_25_code 26 = .ok (.athrow, 1) := by decide +kernel
theorem d_BT_needRow_27 : decode prog_1_method_25_code 27 = .ok (.return_, 1) := by decide +kernel
theorem d_BT_needPart_0 : decode prog_1_method_26_code 0 = .ok (.iload_n 0, 1) := by decide +kernel
theorem d_BT_needPart_1 : decode prog_1_method_26_code 1 = .ok (.i2l, 1) := by decide +kernel
theorem d_BT_needPart_2 : decode prog_1_method_26_code 2 = .ok (.iload_n 1, 1) := by decide +kernel
theorem d_BT_needPart_3 : decode prog_1_method_26_code 3 = .ok (.iconst 1, 1) := by decide +kernel
theorem d_BT_needPart_4 : decode prog_1_method_26_code 4 = .ok (.isub, 1) := by decide +kernel
theorem d_BT_needPart_5 : decode prog_1_method_26_code 5 = .ok (.i2l, 1) := by decide +kernel
theorem d_BT_needPart_6 : decode prog_1_method_26_code 6 = .ok (.invokestatic 92, 3) := by decide +kernel
theorem d_BT_needPart_9 : decode prog_1_method_26_code 9 = .ok (.ifCond .eq 13, 3) := by decide +kernel
theorem d_BT_needPart_12 : decode prog_1_method_26_code 12 = .ok (.new 98, 3) := by decide +kernel
theorem d_BT_needPart_15 : decode prog_1_method_26_code 15 = .ok (.dup, 1) := by decide +kernel
theorem d_BT_needPart_16 : decode prog_1_method_26_code 16 = .ok (.ldc 230, 2) := by decide +kernel
theorem d_BT_needPart_18 : decode prog_1_method_26_code 18 = .ok (.invokespecial 102, 3) := by decide +kernel
theorem d_BT_needPart_21 : decode prog_1_method_26_code 21 = .ok (.athrow, 1) := by decide +kernel
theorem d_BT_needPart_22 : decode prog_1_method_26_code 22 = .ok (.return_, 1) := by decide +kernel
theorem d_BT_forceLatest_0 : decode prog_1_method_27_code 0 = .ok (.aload_n 0, 1) := by decide +kernel
theorem d_BT_forceLatest_1 : decode prog_1_method_27_code 1 = .ok (.invokevirtual 76, 3) := by decide +kernel
theorem d_BT_forceLatest_4 : decode prog_1_method_27_code 4 = .ok (.astore_n 2, 1) := by decide +kernel
theorem d_BT_forceLatest_5 : decode prog_1_method_27_code 5 = .ok (.aload_n 2, 1) := by decide +kernel
theorem d_BT_forceLatest_6 : decode prog_1_method_27_code 6 = .ok (.iload_n 1, 1) := by decide +kernel
theorem d_BT_forceLatest_7 : decode prog_1_method_27_code 7 = .ok (.invokevirtual 232, 3) := by decide +kernel
theorem d_BT_forceLatest_10 : decode prog_1_method_27_code 10 = .ok (.istore_n 3, 1) := by decide +kernel
theorem d_BT_forceLatest_11 : decode prog_1_method_27_code 11 = .ok (.iload_n 3, 1) := by decide +kernel
theorem d_BT_forceLatest_12 : decode prog_1_method_27_code 12 = .ok (.iconst (-1), 1) := by decide +kernel
theorem d_BT_forceLatest_13 : decode prog_1_method_27_code 13 = .ok (.if_icmp .eq 12, 3) := by decide +kernel
theorem d_BT_forceLatest_16 : decode prog_1_method_27_code 16 = .ok (.aload_n 2, 1) := by decide +kernel
theorem d_BT_forceLatest_17 : decode prog_1_method_27_code 17 = .ok (.getfield 235, 3) := by decide +kernel
theorem d_BT_forceLatest_20 : decode prog_1_method_27_code 20 = .ok (.iload_n 3, 1) := by decide +kernel
theorem d_BT_forceLatest_21 : decode prog_1_method_27_code 21 = .ok (.baload, 1) := by decide +kernel
theorem d_BT_forceLatest_22 : decode prog_1_method_27_code 22 = .ok (.ifCond .eq 5, 3) := by decide +kernel
theorem d_BT_forceLatest_25 : decode prog_1_method_27_code 25 = .ok (.iconst 0, 1) := by decide +kernel
theorem d_BT_forceLatest_26 : decode prog_1_method_27_code 26 = .ok (.ireturn, 1) := by decide +kernel
theorem d_BT_forceLatest_27 : decode prog_1_method_27_code 27 = .ok (.aload_n 2, 1) := by decide +kernel
theorem d_BT_forceLatest_28 : decode prog_1_method_27_code 28 = .ok (.getfield 235, 3) := by decide +kernel
theorem d_BT_forceLatest_31 : decode prog_1_method_27_code 31 = .ok (.iload_n 3, 1) := by decide +kernel
theorem d_BT_forceLatest_32 : decode prog_1_method_27_code 32 = .ok (.iconst 1, 1) := by decide +kernel
theorem d_BT_forceLatest_33 : decode prog_1_method_27_code 33 = .ok (.bastore, 1) := by decide +kernel
theorem d_BT_forceLatest_34 : decode prog_1_method_27_code 34 = .ok (.iconst 1, 1) := by decide +kernel
theorem d_BT_forceLatest_35 : decode prog_1_method_27_code 35 = .ok (.ireturn, 1) := by decide +kernel
theorem d_BT_makePlain_0 : decode prog_1_method_28_code 0 = .ok (.aload_n 0, 1) := by decide +kernel
theorem d_BT_makePlain_1 : decode prog_1_method_28_code 1 = .ok (.invokevirtual 238, 3) := by decide +kernel
theorem d_BT_makePlain_4 : decode prog_1_method_28_code 4 = .ok (.aload_n 0, 1) := by decide +kernel
theorem d_BT_makePlain_5 : decode prog_1_method_28_code 5 = .ok (.aload_n 0, 1) := by decide +kernel
theorem d_BT_makePlain_6 : decode prog_1_method_28_code 6 = .ok (.getfield 44, 3) := by decide +kernel
theorem d_BT_makePlain_9 : decode prog_1_method_28_code 9 = .ok (.invokevirtual 241, 3) := by decide +kernel
theorem d_BT_makePlain_12 : decode prog_1_method_28_code 12 = .ok (.aload_n 0, 1) := by decide +kernel
