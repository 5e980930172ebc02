theorem d_BT_makePlain_13 : decode prog_1_method_28_code 13 = .ok (.aload_n 0, 1) := by decide +kernel
theorem d_BT_makePlain_14 : decode prog_1_method_28_code 14 = .ok (.getfield 44, 3) := by decide +kernel
theorem d_BT_makePlain_17 : decode prog_1_method_28_code 17 = .ok (.getfield 188, 3) := by decide +kernel
theorem d_BT_makePlain_20 : decode prog_1_method_28_code 20 = .ok (.putfield 58, 3) := by decide +kernel
theorem d_BT_makePlain_23 : decode prog_1_method_28_code 23 = .ok (.aload_n 0, 1) := by decide +kernel
theorem d_BT_makePlain_24 : decode prog_1_method_28_code 24 = .ok (.iconst 0, 1) := by decide +kernel
theorem d_BT_makePlain_25 : decode prog_1_method_28_code 25 = .ok (.putfield 55, 3) := by decide +kernel
theorem d_BT_makePlain_28 : decode prog_1_method_28_code 28 = .ok (.aload_n 0, 1) := by decide +kernel
theorem d_BT_makePlain_29 : decode prog_1_method_28_code 29 = .ok (.iconst 1, 1) := by decide +kernel
theorem d_BT_makePlain_30 : decode prog_1_method_28_code 30 = .ok (.putfield 51, 3) := by decide +kernel
theorem d_BT_makePlain_33 : decode prog_1_method_28_code 33 = .ok (.return_, 1) := by decide +kernel
theorem d_BT_makePriced_0 : decode prog_1_method_29_code 0 = .ok (.aload_n 0, 1) := by decide +kernel
theorem d_BT_makePriced_1 : decode prog_1_method_29_code 1 = .ok (.invokevirtual 238, 3) := by decide +kernel
theorem d_BT_makePriced_4 : decode prog_1_method_29_code 4 = .ok (.aload_n 0, 1) := by decide +kernel
theorem d_BT_makePriced_5 : decode prog_1_method_29_code 5 = .ok (.getfield 48, 3) := by decide +kernel
theorem d_BT_makePriced_8 : decode prog_1_method_29_code 8 = .ok (.astore_n 2, 1) := by decide +kernel
theorem d_BT_makePriced_9 : decode prog_1_method_29_code 9 = .ok (.iconst 0, 1) := by decide +kernel
theorem d_BT_makePriced_10 : decode prog_1_method_29_code 10 = .ok (.istore_n 3, 1) := by decide +kernel
theorem d_BT_makePriced_11 : decode prog_1_method_29_code 11 = .ok (.iconst 0, 1) := by decide +kernel
theorem d_BT_makePriced_12 : decode prog_1_method_29_code 12 = .ok (.istore 4, 2) := by decide +kernel
theorem d_BT_makePriced_14 : decode prog_1_method_29_code 14 = .ok (.iconst 0, 1) := by decide +kernel
theorem d_BT_makePriced_15 : decode prog_1_method_29_code 15 = .ok (.istore 5, 2) := by decide +kernel
theorem d_BT_makePriced_17 : decode prog_1_method_29_code 17 = .ok (.iload 5, 2) := by decide +kernel
theorem d_BT_makePriced_19 : decode prog_1_method_29_code 19 = .ok (.iload_n 1, 1) := by decide +kernel
theorem d_BT_makePriced_20 : decode prog_1_method_29_code 20 = .ok (.if_icmp .ge 124, 3) := by decide +kernel
theorem d_BT_makePriced_23 : decode prog_1_method_29_code 23 = .ok (.iload 4, 2) := by decide +kernel
theorem d_BT_makePriced_25 : decode prog_1_method_29_code 25 = .ok (.ifCond .ne 119, 3) := by decide +kernel
theorem d_BT_makePriced_28 : decode prog_1_method_29_code 28 = .ok (.iload 5, 2) := by decide +kernel
theorem d_BT_makePriced_30 : decode prog_1_method_29_code 30 = .ok (.ifCond .le 10, 3) := by decide +kernel
theorem d_BT_makePriced_33 : decode prog_1_method_29_code 33 = .ok (.aload_n 0, 1) := by decide +kernel
theorem d_BT_makePriced_34 : decode prog_1_method_29_code 34 = .ok (.aload_n 2, 1) := by decide +kernel
theorem d_BT_makePriced_35 : decode prog_1_method_29_code 35 = .ok (.iload 5, 2) := by decide +kernel
theorem d_BT_makePriced_37 : decode prog_1_method_29_code 37 = .ok (.invokevirtual 245, 3) := by decide +kernel
theorem d_BT_makePriced_40 : decode prog_1_method_29_code 40 = .ok (.iinc 5 1, 3) := by decide +kernel
theorem d_BT_makePriced_43 : decode prog_1_method_29_code 43 = .ok (.aload_n 0, 1) := by decide +kernel
theorem d_BT_makePriced_44 : decode prog_1_method_29_code 44 = .ok (.getfield 48, 3) := by decide +kernel
theorem d_BT_makePriced_47 : decode prog_1_method_29_code 47 = .ok (.astore_n 2, 1) := by decide +kernel
theorem d_BT_makePriced_48 : decode prog_1_method_29_code 48 = .ok (.aload_n 0, 1) := by decide +kernel
theorem d_BT_makePriced_49 : decode prog_1_method_29_code 49 = .ok (.aload_n 2, 1) := by decide +kernel
theorem d_BT_makePriced_50 : decode prog_1_method_29_code 50 = .ok (.invokevirtual 241, 3) := by decide +kernel
theorem d_BT_makePriced_53 : decode prog_1_method_29_code 53 = .ok (.aload_n 0, 1) := by decide +kernel
theorem d_BT_makePriced_54 : decode prog_1_method_29_code 54 = .ok (.aload_n 2, 1) := by decide +kernel
theorem d_BT_makePriced_55 : decode prog_1_method_29_code 55 = .ok (.invokevirtual 249, 3) := by decide +kernel
theorem d_BT_makePriced_58 : decode prog_1_method_29_code 58 = .ok (.lstore 6, 2) := by decide +kernel
theorem d_BT_makePriced_60 : decode prog_1_method_29_code 60 = .ok (.aload_n 0, 1) := by decide +kernel
theorem d_BT_makePriced_61 : decode prog_1_method_29_code 61 = .ok (.iload 5, 2) := by decide +kernel
theorem d_BT_makePriced_63 : decode prog_1_method_29_code 63 = .ok (.iconst 1, 1) := by decide +kernel
theorem d_BT_makePriced_64 : decode prog_1_method_29_code 64 = .ok (.if_icmp .ne 8, 3) := by decide +kernel
theorem d_BT_makePriced_67 : decode prog_1_method_29_code 67 = .ok (.lload 6, 2) := by decide +kernel
theorem d_BT_makePriced_69 : decode prog_1_method_29_code 69 = .ok (.goto 12, 3) := by decide +kernel
theorem d_BT_makePriced_72 : decode prog_1_method_29_code 72 = .ok (.aload_n 0, 1) := by decide +kernel
theorem d_BT_makePriced_73 : decode prog_1_method_29_code 73 = .ok (.getfield 58, 3) := by decide +kernel
theorem d_BT_makePriced_76 : decode prog_1_method_29_code 76 = .ok (.lload 6, 2) := by decide +kernel
theorem d_BT_makePriced_78 : decode prog_1_method_29_code 78 = .ok (.invokestatic 253, 3) := by decide +kernel
theorem d_BT_makePriced_81 : decode prog_1_method_29_code 81 = .ok (.putfield 58, 3) := by decide +kernel
theorem d_BT_makePriced_84 : decode prog_1_method_29_code 84 = .ok (.aload_n 0, 1) := by decide +kernel
theorem d_BT_makePriced_85 : decode prog_1_method_29_code 85 = .ok (.aload_n 2, 1) := by decide +kernel
theorem d_BT_makePriced_86 : decode prog_1_method_29_code 86 = .ok (.invokevirtual 256, 3) := by decide +kernel
theorem d_BT_makePriced_89 : decode prog_1_method_29_code 89 = .ok (.istore 8, 2) := by decide +kernel
theorem d_BT_makePriced_91 : decode prog_1_method_29_code 91 = .ok (.iload 8, 2) := by decide +kernel
theorem d_BT_makePriced_93 : decode prog_1_method_29_code 93 = .ok (.ifCond .eq 15, 3) := by decide +kernel
theorem d_BT_makePriced_96 : decode prog_1_method_29_code 96 = .ok (.aload_n 0, 1) := by decide +kernel
theorem d_BT_makePriced_97 : decode prog_1_method_29_code 97 = .ok (.aload_n 2, 1) := by decide +kernel
theorem d_BT_makePriced_98 : decode prog_1_method_29_code 98 = .ok (.invokevirtual 260, 3) := by decide +kernel
theorem d_BT_makePriced_101 : decode prog_1_method_29_code 101 = .ok (.ifCond .eq 7, 3) := by decide +kernel
theorem d_BT_makePriced_104 : decode prog_1_method_29_code 104 = .ok (.iconst 1, 1) := by decide +kernel
theorem d_BT_makePriced_105 : decode prog_1_method_29_code 105 = .ok (.goto 4, 3) := by decide +kernel
theorem d_BT_makePriced_108 : decode prog_1_method_29_code 108 = .ok (.iconst 0, 1) := by decide +kernel
theorem d_BT_makePriced_109 : decode prog_1_method_29_code 109 = .ok (.istore 4, 2) := by decide +kernel
theorem d_BT_makePriced_111 : decode prog_1_method_29_code 111 = .ok (.iload 8, 2) := by decide +kernel
theorem d_BT_makePriced_113 : decode prog_1_method_29_code 113 = .ok (.ifCond .eq 28, 3) := by decide +kernel
theorem d_BT_makePriced_116 : decode prog_1_method_29_code 116 = .ok (.iload_n 3, 1) := by decide +kernel
theorem d_BT_makePriced_117 : decode prog_1_method_29_code 117 = .ok (.ifCond .eq 18, 3) := by decide +kernel
theorem d_BT_makePriced_120 : decode prog_1_method_29_code 120 = .ok (.aload_n 2, 1) := by decide +kernel
theorem d_BT_makePriced_121 : decode prog_1_method_29_code 121 = .ok (.getfield 188, 3) := by decide +kernel
theorem d_BT_makePriced_124 : decode prog_1_method_29_code 124 = .ok (.aload_n 0, 1) := by decide +kernel
theorem d_BT_makePriced_125 : decode prog_1_method_29_code 125 = .ok (.getfield 44, 3) := by decide +kernel
theorem d_BT_makePriced_128 : decode prog_1_method_29_code 128 = .ok (.getfield 188, 3) := by decide +kernel
theorem d_BT_makePriced_131 : decode prog_1_method_29_code 131 = .ok (.lcmp, 1) := by decide +kernel
theorem d_BT_makePriced_132 : decode prog_1_method_29_code 132 = .ok (.ifCond .le 9, 3) := by decide +kernel
theorem d_BT_makePriced_135 : decode prog_1_method_29_code 135 = .ok (.aload_n 0, 1) := by decide +kernel
theorem d_BT_makePriced_136 : decode prog_1_method_29_code 136 = .ok (.invokevirtual 263, 3) := by decide +kernel
theorem d_BT_makePriced_139 : decode prog_1_method_29_code 139 = .ok (.iconst 1, 1) := by decide +kernel
theorem d_BT_makePriced_140 : decode prog_1_method_29_code 140 = .ok (.istore_n 3, 1) := by decide +kernel
theorem d_BT_makePriced_141 : decode prog_1_method_29_code 141 = .ok (.goto (-124), 3) := by decide +kernel
theorem d_BT_makePriced_144 : decode prog_1_method_29_code 144 = .ok (.iload_n 3, 1) := by decide +kernel
theorem d_BT_makePriced_145 : decode prog_1_method_29_code 145 = .ok (.ifCond .ne 15, 3) := by decide +kernel
theorem d_BT_makePriced_148 : decode prog_1_method_29_code 148 = .ok (.aload_n 2, 1) := by decide +kernel
theorem d_BT_makePriced_149 : decode prog_1_method_29_code 149 = .ok (.aload_n 0, 1) := by decide +kernel
theorem d_BT_makePriced_150 : decode prog_1_method_29_code 150 = .ok (.getfield 17, 3) := by decide +kernel
theorem d_BT_makePriced_153 : decode prog_1_method_29_code 153 = .ok (.invokevirtual 266, 3) := by decide +kernel
theorem d_BT_makePriced_156 : decode prog_1_method_29_code 156 = .ok (.aload_n 0, 1) := by decide +kernel
theorem d_BT_makePriced_157 : decode prog_1_method_29_code 157 = .ok (.invokevirtual 263, 3) := by decide +kernel
theorem d_BT_makePriced_160 : decode prog_1_method_29_code 160 = .ok (.aload_n 0, 1) := by decide +kernel
theorem d_BT_makePriced_161 : decode prog_1_method_29_code 161 = .ok (.iload_n 1, 1) := by decide +kernel
theorem d_BT_makePriced_162 : decode prog_1_method_29_code 162 = .ok (.putfield 55, 3) := by decide +kernel
theorem d_BT_makePriced_165 : decode prog_1_method_29_code 165 = .ok (.aload_n 0, 1) := by decide +kernel
theorem d_BT_makePriced_166 : decode prog_1_method_29_code 166 = .ok (.iconst 1, 1) := by decide +kernel
theorem d_BT_makePriced_167 : decode prog_1_method_29_code 167 = .ok (.putfield 51, 3) := by decide +kernel
theorem d_BT_makePriced_170 : decode prog_1_method_29_code 170 = .ok (.iload 5, 2) := by decide +kernel
theorem d_BT_makePriced_172 : decode prog_1_method_29_code 172 = .ok (.ireturn, 1) := by decide +kernel
theorem d_BT_keepTrial_0 : decode prog_1_method_30_code 0 = .ok (.aload_n 0, 1) := by decide +kernel
theorem d_BT_keepTrial_1 : decode prog_1_method_30_code 1 = .ok (.getfield 44, 3) := by decide +kernel
theorem d_BT_keepTrial_4 : decode prog_1_method_30_code 4 = .ok (.astore_n 1, 1) := by decide +kernel
theorem d_BT_keepTrial_5 : decode prog_1_method_30_code 5 = .ok (.aload_n 0, 1) := by decide +kernel
theorem d_BT_keepTrial_6 : decode prog_1_method_30_code 6 = .ok (.aload_n 0, 1) := by decide +kernel
theorem d_BT_keepTrial_7 : decode prog_1_method_30_code 7 = .ok (.getfield 48, 3) := by decide +kernel
theorem d_BT_keepTrial_10 : decode prog_1_method_30_code 10 = .ok (.putfield 44, 3) := by decide +kernel
theorem d_BT_keepTrial_13 : decode prog_1_method_30_code 13 = .ok (.aload_n 0, 1) := by decide +kernel
theorem d_BT_keepTrial_14 : decode prog_1_method_30_code 14 = .ok (.aload_n 1, 1) := by decide +kernel
theorem d_BT_keepTrial_15 : decode prog_1_method_30_code 15 = .ok (.putfield 48, 3) := by decide +kernel
theorem d_BT_keepTrial_18 : decode prog_1_method_30_code 18 = .ok (.return_, 1) := by decide +kernel
theorem d_BT_startPlans_0 : decode prog_1_method_31_code 0 = .ok (.iconst 0, 1) := by decide +kernel
theorem d_BT_startPlans_1 : decode prog_1_method_31_code 1 = .ok (.istore_n 1, 1) := by decide +kernel
theorem d_BT_startPlans_2 : decode prog_1_method_31_code 2 = .ok (.iload_n 1, 1) := by decide +kernel
theorem d_BT_startPlans_3 : decode prog_1_method_31_code 3 = .ok (.aload_n 0, 1) := by decide +kernel
theorem d_BT_startPlans_4 : decode prog_1_method_31_code 4 = .ok (.getfield 32, 3) := by decide +kernel
theorem d_BT_startPlans_7 : decode prog_1_method_31_code 7 = .ok (.if_icmp .ge 19, 3) := by decide +kernel
theorem d_BT_startPlans_10 : decode prog_1_method_31_code 10 = .ok (.aload_n 0, 1) := by decide +kernel
theorem d_BT_startPlans_11 : decode prog_1_method_31_code 11 = .ok (.getfield 17, 3) := by decide +kernel
theorem d_BT_startPlans_14 : decode prog_1_method_31_code 14 = .ok (.iload_n 1, 1) := by decide +kernel
theorem d_BT_startPlans_15 : decode prog_1_method_31_code 15 = .ok (.aaload, 1) := by decide +kernel
theorem d_BT_startPlans_16 : decode prog_1_method_31_code 16 = .ok (.lconst 0, 1) := by decide +kernel
theorem d_BT_startPlans_17 : decode prog_1_method_31_code 17 = .ok (.putfield 215, 3) := by decide +kernel
theorem d_BT_startPlans_20 : decode prog_1_method_31_code 20 = .ok (.iinc 1 1, 3) := by decide +kernel
theorem d_BT_startPlans_23 : decode prog_1_method_31_code 23 = .ok (.goto (-21), 3) := by decide +kernel
theorem d_BT_startPlans_26 : decode prog_1_method_31_code 26 = .ok (.iconst 0, 1) := by decide +kernel
theorem d_BT_startPlans_27 : decode prog_1_method_31_code 27 = .ok (.istore_n 1, 1) := by decide +kernel
theorem d_BT_startPlans_28 : decode prog_1_method_31_code 28 = .ok (.iload_n 1, 1) := by decide +kernel
theorem d_BT_startPlans_29 : decode prog_1_method_31_code 29 = .ok (.aload_n 0, 1) := by decide +kernel
theorem d_BT_startPlans_30 : decode prog_1_method_31_code 30 = .ok (.getfield 28, 3) := by decide +kernel
theorem d_BT_startPlans_33 : decode prog_1_method_31_code 33 = .ok (.if_icmp .ge 45, 3) := by decide +kernel
theorem d_BT_startPlans_36 : decode prog_1_method_31_code 36 = .ok (.iconst 0, 1) := by decide +kernel
theorem d_BT_startPlans_37 : decode prog_1_method_31_code 37 = .ok (.istore_n 2, 1) := by decide +kernel
theorem d_BT_startPlans_38 : decode prog_1_method_31_code 38 = .ok (.iload_n 2, 1) := by decide +kernel
theorem d_BT_startPlans_39 : decode prog_1_method_31_code 39 = .ok (.aload_n 0, 1) := by decide +kernel
theorem d_BT_startPlans_40 : decode prog_1_method_31_code 40 = .ok (.getfield 32, 3) := by decide +kernel
theorem d_BT_startPlans_43 : decode prog_1_method_31_code 43 = .ok (.if_icmp .ge 29, 3) := by decide +kernel
theorem d_BT_startPlans_46 : decode prog_1_method_31_code 46 = .ok (.aload_n 0, 1) := by decide +kernel
theorem d_BT_startPlans_47 : decode prog_1_method_31_code 47 = .ok (.getfield 11, 3) := by decide +kernel
theorem d_BT_startPlans_50 : decode prog_1_method_31_code 50 = .ok (.iload_n 1, 1) := by decide +kernel
theorem d_BT_startPlans_51 : decode prog_1_method_31_code 51 = .ok (.aaload, 1) := by decide +kernel
theorem d_BT_startPlans_52 : decode prog_1_method_31_code 52 = .ok (.iload_n 2, 1) := by decide +kernel
theorem d_BT_startPlans_53 : decode prog_1_method_31_code 53 = .ok (.aload_n 0, 1) := by decide +kernel
theorem d_BT_startPlans_54 : decode prog_1_method_31_code 54 = .ok (.getfield 17, 3) := by decide +kernel
theorem d_BT_startPlans_57 : decode prog_1_method_31_code 57 = .ok (.iload_n 2, 1) := by decide +kernel
theorem d_BT_startPlans_58 : decode prog_1_method_31_code 58 = .ok (.aaload, 1) := by decide +kernel
theorem d_BT_startPlans_59 : decode prog_1_method_31_code 59 = .ok (.aload_n 0, 1) := by decide +kernel
theorem d_BT_startPlans_60 : decode prog_1_method_31_code 60 = .ok (.getfield 35, 3) := by decide +kernel
theorem d_BT_startPlans_63 : decode prog_1_method_31_code 63 = .ok (.invokevirtual 270, 3) := by decide +kernel
theorem d_BT_startPlans_66 : decode prog_1_method_31_code 66 = .ok (.iinc 2 1, 3) := by decide +kernel
theorem d_BT_startPlans_69 : decode prog_1_method_31_code 69 = .ok (.goto (-31), 3) := by decide +kernel
theorem d_BT_startPlans_72 : decode prog_1_method_31_code 72 = .ok (.iinc 1 1, 3) := by decide +kernel
theorem d_BT_startPlans_75 : decode prog_1_method_31_code 75 = .ok (.goto (-47), 3) := by decide +kernel
theorem d_BT_startPlans_78 : decode prog_1_method_31_code 78 = .ok (.return_, 1) := by decide +kernel
theorem d_BT_cutAll_0 : decode prog_1_method_32_code 0 = .ok (.aload_n 1, 1) := by decide +kernel
theorem d_BT_cutAll_1 : decode prog_1_method_32_code 1 = .ok (.invokevirtual 274, 3) := by decide +kernel
theorem d_BT_cutAll_4 : decode prog_1_method_32_code 4 = .ok (.iconst 0, 1) := by decide +kernel
theorem d_BT_cutAll_5 : decode prog_1_method_32_code 5 = .ok (.istore_n 2, 1) := by decide +kernel
theorem d_BT_cutAll_6 : decode prog_1_method_32_code 6 = .ok (.iload_n 2, 1) := by decide +kernel
theorem d_BT_cutAll_7 : decode prog_1_method_32_code 7 = .ok (.aload_n 0, 1) := by decide +kernel
theorem d_BT_cutAll_8 : decode prog_1_method_32_code 8 = .ok (.getfield 28, 3) := by decide +kernel
theorem d_BT_cutAll_11 : decode prog_1_method_32_code 11 = .ok (.if_icmp .ge 58, 3) := by decide +kernel
theorem d_BT_cutAll_14 : decode prog_1_method_32_code 14 = .ok (.aload_n 0, 1) := by decide +kernel
theorem d_BT_cutAll_15 : decode prog_1_method_32_code 15 = .ok (.getfield 24, 3) := by decide +kernel
theorem d_BT_cutAll_18 : decode prog_1_method_32_code 18 = .ok (.aload_n 0, 1) := by decide +kernel
theorem d_BT_cutAll_19 : decode prog_1_method_32_code 19 = .ok (.getfield 11, 3) := by decide +kernel
theorem d_BT_cutAll_22 : decode prog_1_method_32_code 22 = .ok (.iload_n 2, 1) := by decide +kernel
theorem d_BT_cutAll_23 : decode prog_1_method_32_code 23 = .ok (.aaload, 1) := by decide +kernel
theorem d_BT_cutAll_24 : decode prog_1_method_32_code 24 = .ok (.iload_n 2, 1) := by decide +kernel
theorem d_BT_cutAll_25 : decode prog_1_method_32_code 25 = .ok (.aload_n 0, 1) := by decide +kernel
theorem d_BT_cutAll_26 : decode prog_1_method_32_code 26 = .ok (.getfield 17, 3) := by decide +kernel
theorem d_BT_cutAll_29 : decode prog_1_method_32_code 29 = .ok (.aload_n 0, 1) := by decide +kernel
theorem d_BT_cutAll_30 : decode prog_1_method_32_code 30 = .ok (.getfield 32, 3) := by decide +kernel
theorem d_BT_cutAll_33 : decode prog_1_method_32_code 33 = .ok (.aload_n 0, 1) := by decide +kernel
theorem d_BT_cutAll_34 : decode prog_1_method_32_code 34 = .ok (.getfield 38, 3) := by decide +kernel
theorem d_BT_cutAll_37 : decode prog_1_method_32_code 37 = .ok (.invokevirtual 277, 3) := by decide +kernel
theorem d_BT_cutAll_40 : decode prog_1_method_32_code 40 = .ok (.aload_n 0, 1) := by decide +kernel
theorem d_BT_cutAll_41 : decode prog_1_method_32_code 41 = .ok (.getfield 24, 3) := by decide +kernel
theorem d_BT_cutAll_44 : decode prog_1_method_32_code 44 = .ok (.aload_n 1, 1) := by decide +kernel
theorem d_BT_cutAll_45 : decode prog_1_method_32_code 45 = .ok (.aload_n 0, 1) := by decide +kernel
theorem d_BT_cutAll_46 : decode prog_1_method_32_code 46 = .ok (.getfield 11, 3) := by decide +kernel
theorem d_BT_cutAll_49 : decode prog_1_method_32_code 49 = .ok (.iload_n 2, 1) := by decide +kernel
theorem d_BT_cutAll_50 : decode prog_1_method_32_code 50 = .ok (.aaload, 1) := by decide +kernel
theorem d_BT_cutAll_51 : decode prog_1_method_32_code 51 = .ok (.iload_n 2, 1) := by decide +kernel
theorem d_BT_cutAll_52 : decode prog_1_method_32_code 52 = .ok (.aload_n 0, 1) := by decide +kernel
theorem d_BT_cutAll_53 : decode prog_1_method_32_code 53 = .ok (.getfield 17, 3) := by decide +kernel
theorem d_BT_cutAll_56 : decode prog_1_method_32_code 56 = .ok (.aload_n 0, 1) := by decide +kernel
theorem d_BT_cutAll_57 : decode prog_1_method_32_code 57 = .ok (.getfield 38, 3) := by decide +kernel
theorem d_BT_cutAll_60 : decode prog_1_method_32_code 60 = .ok (.invokevirtual 281, 3) := by decide +kernel
theorem d_BT_cutAll_63 : decode prog_1_method_32_code 63 = .ok (.iinc 2 1, 3) := by decide +kernel
theorem d_BT_cutAll_66 : decode prog_1_method_32_code 66 = .ok (.goto (-60), 3) := by decide +kernel
theorem d_BT_cutAll_69 : decode prog_1_method_32_code 69 = .ok (.return_, 1) := by decide +kernel
theorem d_BT_valueOf_0 : decode prog_1_method_33_code 0 = .ok (.aload_n 1, 1) := by decide +kernel
theorem d_BT_valueOf_1 : decode prog_1_method_33_code 1 = .ok (.getfield 188, 3) := by decide +kernel
theorem d_BT_valueOf_4 : decode prog_1_method_33_code 4 = .ok (.lstore_n 2, 1) := by decide +kernel
theorem d_BT_valueOf_5 : decode prog_1_method_33_code 5 = .ok (.iconst 0, 1) := by decide +kernel
theorem d_BT_valueOf_6 : decode prog_1_method_33_code 6 = .ok (.istore 4, 2) := by decide +kernel
theorem d_BT_valueOf_8 : decode prog_1_method_33_code 8 = .ok (.iload 4, 2) := by decide +kernel
theorem d_BT_valueOf_10 : decode prog_1_method_33_code 10 = .ok (.aload_n 0, 1) := by decide +kernel
theorem d_BT_valueOf_11 : decode prog_1_method_33_code 11 = .ok (.getfield 32, 3) := by decide +kernel
theorem d_BT_valueOf_14 : decode prog_1_method_33_code 14 = .ok (.if_icmp .ge 49, 3) := by decide +kernel
theorem d_BT_valueOf_17 : decode prog_1_method_33_code 17 = .ok (.aload_n 0, 1) := by decide +kernel
theorem d_BT_valueOf_18 : decode prog_1_method_33_code 18 = .ok (.getfield 17, 3) := by decide +kernel
theorem d_BT_valueOf_21 : decode prog_1_method_33_code 21 = .ok (.iload 4, 2) := by decide +kernel
theorem d_BT_valueOf_23 : decode prog_1_method_33_code 23 = .ok (.aaload, 1) := by decide +kernel
theorem d_BT_valueOf_24 : decode prog_1_method_33_code 24 = .ok (.astore 5, 2) := by decide +kernel
theorem d_BT_valueOf_26 : decode prog_1_method_33_code 26 = .ok (.aload 5, 2) := by decide +kernel
theorem d_BT_valueOf_28 : decode prog_1_method_33_code 28 = .ok (.invokevirtual 285, 3) := by decide +kernel
theorem d_BT_valueOf_31 : decode prog_1_method_33_code 31 = .ok (.ifCond .eq 26, 3) := by decide +kernel
theorem d_BT_valueOf_34 : decode prog_1_method_33_code 34 = .ok (.lload_n 2, 1) := by decide +kernel
theorem d_BT_valueOf_35 : decode prog_1_method_33_code 35 = .ok (.aload 5, 2) := by decide +kernel
theorem d_BT_valueOf_37 : decode prog_1_method_33_code 37 = .ok (.getfield 215, 3) := by decide +kernel
theorem d_BT_valueOf_40 : decode prog_1_method_33_code 40 = .ok (.aload 5, 2) := by decide +kernel
theorem d_BT_valueOf_42 : decode prog_1_method_33_code 42 = .ok (.getfield 162, 3) := by decide +kernel
theorem d_BT_valueOf_45 : decode prog_1_method_33_code 45 = .ok (.aload_n 1, 1) := by decide +kernel
theorem d_BT_valueOf_46 : decode prog_1_method_33_code 46 = .ok (.getfield 218, 3) := by decide +kernel
theorem d_BT_valueOf_49 : decode prog_1_method_33_code 49 = .ok (.iload 4, 2) := by decide +kernel
theorem d_BT_valueOf_51 : decode prog_1_method_33_code 51 = .ok (.iaload, 1) := by decide +kernel
theorem d_BT_valueOf_52 : decode prog_1_method_33_code 52 = .ok (.i2l, 1) := by decide +kernel
theorem d_BT_valueOf_53 : decode prog_1_method_33_code 53 = .ok (.lsub, 1) := by decide +kernel
theorem d_BT_valueOf_54 : decode prog_1_method_33_code 54 = .ok (.lmul, 1) := by decide +kernel
theorem d_BT_valueOf_55 : decode prog_1_method_33_code 55 = .ok (.ladd, 1) := by decide +kernel
theorem d_BT_valueOf_56 : decode prog_1_method_33_code 56 = .ok (.lstore_n 2, 1) := by decide +kernel
theorem d_BT_valueOf_57 : decode prog_1_method_33_code 57 = .ok (.iinc 4 1, 3) := by decide +kernel
theorem d_BT_valueOf_60 : decode prog_1_method_33_code 60 = .ok (.goto (-52), 3) := by decide +kernel
theorem d_BT_valueOf_63 : decode prog_1_method_33_code 63 = .ok (.lload_n 2, 1) := by decide +kernel
theorem d_BT_valueOf_64 : decode prog_1_method_33_code 64 = .ok (.lreturn, 1) := by decide +kernel
theorem d_BT_limitsHold_0 : decode prog_1_method_34_code 0 = .ok (.iconst 0, 1) := by decide +kernel
theorem d_BT_limitsHold_1 : decode prog_1_method_34_code 1 = .ok (.istore_n 2, 1) := by decide +kernel
theorem d_BT_limitsHold_2 : decode prog_1_method_34_code 2 = .ok (.iload_n 2, 1) := by decide +kernel
theorem d_BT_limitsHold_3 : decode prog_1_method_34_code 3 = .ok (.aload_n 0, 1) := by decide +kernel
theorem d_BT_limitsHold_4 : decode prog_1_method_34_code 4 = .ok (.getfield 32, 3) := by decide +kernel
theorem d_BT_limitsHold_7 : decode prog_1_method_34_code 7 = .ok (.if_icmp .ge 29, 3) := by decide +kernel
theorem d_BT_limitsHold_10 : decode prog_1_method_34_code 10 = .ok (.aload_n 0, 1) := by decide +kernel
theorem d_BT_limitsHold_11 : decode prog_1_method_34_code 11 = .ok (.getfield 17, 3) := by decide +kernel
theorem d_BT_limitsHold_14 : decode prog_1_method_34_code 14 = .ok (.iload_n 2, 1) := by decide +kernel
theorem d_BT_limitsHold_15 : decode prog_1_method_34_code 15 = .ok (.aaload, 1) := by decide +kernel
theorem d_BT_limitsHold_16 : decode prog_1_method_34_code 16 = .ok (.aload_n 1, 1) := by decide +kernel
theorem d_BT_limitsHold_17 : decode prog_1_method_34_code 17 = .ok (.getfield 218, 3) := by decide +kernel
theorem d_BT_limitsHold_20 : decode prog_1_method_34_code 20 = .ok (.iload_n 2, 1) := by decide +kernel
theorem d_BT_limitsHold_21 : decode prog_1_method_34_code 21 = .ok (.iaload, 1) := by decide +kernel
theorem d_BT_limitsHold_22 : decode prog_1_method_34_code 22 = .ok (.invokevirtual 289, 3) := by decide +kernel
theorem d_BT_limitsHold_25 : decode prog_1_method_34_code 25 = .ok (.ifCond .eq 5, 3) := by decide +kernel
theorem d_BT_limitsHold_28 : decode prog_1_method_34_code 28 = .ok (.iconst 0, 1) := by decide +kernel
theorem d_BT_limitsHold_29 : decode prog_1_method_34_code 29 = .ok (.ireturn, 1) := by decide +kernel
theorem d_BT_limitsHold_30 : decode prog_1_method_34_code 30 = .ok (.iinc 2 1, 3) := by decide +kernel
theorem d_BT_limitsHold_33 : decode prog_1_method_34_code 33 = .ok (.goto (-31), 3) := by decide +kernel
theorem d_BT_limitsHold_36 : decode prog_1_method_34_code 36 = .ok (.iconst 1, 1) := by decide +kernel
theorem d_BT_limitsHold_37 : decode prog_1_method_34_code 37 = .ok (.ireturn, 1) := by decide +kernel
theorem d_BT_pricesAreUsed_0 : decode prog_1_method_35_code 0 = .ok (.iconst 0, 1) := by decide +kernel
theorem d_BT_pricesAreUsed_1 : decode prog_1_method_35_code 1 = .ok (.istore_n 2, 1) := by decide +kernel
theorem d_BT_pricesAreUsed_2 : decode prog_1_method_35_code 2 = .ok (.iload_n 2, 1) := by decide +kernel
theorem d_BT_pricesAreUsed_3 : decode prog_1_method_35_code 3 = .ok (.aload_n 0, 1) := by decide +kernel
theorem d_BT_pricesAreUsed_4 : decode prog_1_method_35_code 4 = .ok (.getfield 32, 3) := by decide +kernel
theorem d_BT_pricesAreUsed_7 : decode prog_1_method_35_code 7 = .ok (.if_icmp .ge 42, 3) := by decide +kernel
theorem d_BT_pricesAreUsed_10 : decode prog_1_method_35_code 10 = .ok (.aload_n 0, 1) := by decide +kernel
theorem d_BT_pricesAreUsed_11 : decode prog_1_method_35_code 11 = .ok (.getfield 17, 3) := by decide +kernel
theorem d_BT_pricesAreUsed_14 : decode prog_1_method_35_code 14 = .ok (.iload_n 2, 1) := by decide +kernel
theorem d_BT_pricesAreUsed_15 : decode prog_1_method_35_code 15 = .ok (.aaload, 1) := by decide +kernel
theorem d_BT_pricesAreUsed_16 : decode prog_1_method_35_code 16 = .ok (.astore_n 3, 1) := by decide +kernel
theorem d_BT_pricesAreUsed_17 : decode prog_1_method_35_code 17 = .ok (.aload_n 3, 1) := by decide +kernel
theorem d_BT_pricesAreUsed_18 : decode prog_1_method_35_code 18 = .ok (.getfield 215, 3) := by decide +kernel
theorem d_BT_pricesAreUsed_21 : decode prog_1_method_35_code 21 = .ok (.lconst 0, 1) := by decide +kernel
theorem d_BT_pricesAreUsed_22 : decode prog_1_method_35_code 22 = .ok (.lcmp, 1) := by decide +kernel
theorem d_BT_pricesAreUsed_23 : decode prog_1_method_35_code 23 = .ok (.ifCond .le 20, 3) := by decide +kernel
theorem d_BT_pricesAreUsed_26 : decode prog_1_method_35_code 26 = .ok (.aload_n 1, 1) := by decide +kernel
theorem d_BT_pricesAreUsed_27 : decode prog_1_method_35_code 27 = .ok (.getfield 218, 3) := by decide +kernel
theorem d_BT_pricesAreUsed_30 : decode prog_1_method_35_code 30 = .ok (.iload_n 2, 1) := by decide +kernel
theorem d_BT_pricesAreUsed_31 : decode prog_1_method_35_code 31 = .ok (.iaload, 1) := by decide +kernel
theorem d_BT_pricesAreUsed_32 : decode prog_1_method_35_code 32 = .ok (.i2l, 1) := by decide +kernel
theorem d_BT_pricesAreUsed_33 : decode prog_1_method_35_code 33 = .ok (.aload_n 3, 1) := by decide +kernel
theorem d_BT_pricesAreUsed_34 : decode prog_1_method_35_code 34 = .ok (.getfield 162, 3) := by decide +kernel
theorem d_BT_pricesAreUsed_37 : decode prog_1_method_35_code 37 = .ok (.lcmp, 1) := by decide +kernel
theorem d_BT_pricesAreUsed_38 : decode prog_1_method_35_code 38 = .ok (.ifCond .eq 5, 3) := by decide +kernel
theorem d_BT_pricesAreUsed_41 : decode prog_1_method_35_code 41 = .ok (.iconst 0, 1) := by decide +kernel
theorem d_BT_pricesAreUsed_42 : decode prog_1_method_35_code 42 = .ok (.ireturn, 1) := by decide +kernel
theorem d_BT_pricesAreUsed_43 : decode prog_1_method_35_code 43 = .ok (.iinc 2 1, 3) := by decide +kernel
theorem d_BT_pricesAreUsed_46 : decode prog_1_method_35_code 46 = .ok (.goto (-44), 3) := by decide +kernel
theorem d_BT_pricesAreUsed_49 : decode prog_1_method_35_code 49 = .ok (.iconst 1, 1) := by decide +kernel
theorem d_BT_pricesAreUsed_50 : decode prog_1_method_35_code 50 = .ok (.ireturn, 1) := by decide +kernel
theorem d_BT_changePrices_0 : decode prog_1_method_36_code 0 = .ok (.iconst 1, 1) := by decide +kernel
theorem d_BT_changePrices_1 : decode prog_1_method_36_code 1 = .ok (.sipush 1024, 3) := by decide +kernel
theorem d_BT_changePrices_4 : decode prog_1_method_36_code 4 = .ok (.iconst 1, 1) := by decide +kernel
theorem d_BT_changePrices_5 : decode prog_1_method_36_code 5 = .ok (.iload_n 2, 1) := by decide +kernel
theorem d_BT_changePrices_6 : decode prog_1_method_36_code 6 = .ok (.invokestatic 69, 3) := by decide +kernel
theorem d_BT_changePrices_9 : decode prog_1_method_36_code 9 = .ok (.idiv, 1) := by decide +kernel
theorem d_BT_changePrices_10 : decode prog_1_method_36_code 10 = .ok (.invokestatic 69, 3) := by decide +kernel
theorem d_BT_changePrices_13 : decode prog_1_method_36_code 13 = .ok (.i2l, 1) := by decide +kernel
theorem d_BT_changePrices_14 : decode prog_1_method_36_code 14 = .ok (.lstore_n 3, 1) := by decide +kernel
theorem d_BT_changePrices_15 : decode prog_1_method_36_code 15 = .ok (.iconst 0, 1) := by decide +kernel
theorem d_BT_changePrices_16 : decode prog_1_method_36_code 16 = .ok (.istore 5, 2) := by decide +kernel
theorem d_BT_changePrices_18 : decode prog_1_method_36_code 18 = .ok (.iload 5, 2) := by decide +kernel
theorem d_BT_changePrices_20 : decode prog_1_method_36_code 20 = .ok (.aload_n 0, 1) := by decide +kernel
theorem d_BT_changePrices_21 : decode prog_1_method_36_code 21 = .ok (.getfield 32, 3) := by decide +kernel
theorem d_BT_changePrices_24 : decode prog_1_method_36_code 24 = .ok (.if_icmp .ge 61, 3) := by decide +kernel
theorem d_BT_changePrices_27 : decode prog_1_method_36_code 27 = .ok (.aload_n 0, 1) := by decide +kernel
theorem d_BT_changePrices_28 : decode prog_1_method_36_code 28 = .ok (.getfield 17, 3) := by decide +kernel
theorem d_BT_changePrices_31 : decode prog_1_method_36_code 31 = .ok (.iload 5, 2) := by decide +kernel
theorem d_BT_changePrices_33 : decode prog_1_method_36_code 33 = .ok (.aaload, 1) := by decide +kernel
theorem d_BT_changePrices_34 : decode prog_1_method_36_code 34 = .ok (.astore 6, 2) := by decide +kernel
theorem d_BT_changePrices_36 : decode prog_1_method_36_code 36 = .ok (.aload 6, 2) := by decide +kernel
theorem d_BT_changePrices_38 : decode prog_1_method_36_code 38 = .ok (.invokevirtual 285, 3) := by decide +kernel
theorem d_BT_changePrices_41 : decode prog_1_method_36_code 41 = .ok (.ifCond .eq 38, 3) := by decide +kernel
theorem d_BT_changePrices_44 : decode prog_1_method_36_code 44 = .ok (.aload 6, 2) := by decide +kernel
theorem d_BT_changePrices_46 : decode prog_1_method_36_code 46 = .ok (.getfield 215, 3) := by decide +kernel
theorem d_BT_changePrices_49 : decode prog_1_method_36_code 49 = .ok (.aload_n 1, 1) := by decide +kernel
theorem d_BT_changePrices_50 : decode prog_1_method_36_code 50 = .ok (.getfield 218, 3) := by decide +kernel
theorem d_BT_changePrices_53 : decode prog_1_method_36_code 53 = .ok (.iload 5, 2) := by decide +kernel
theorem d_BT_changePrices_55 : decode prog_1_method_36_code 55 = .ok (.iaload, 1) := by decide +kernel
theorem d_BT_changePrices_56 : decode prog_1_method_36_code 56 = .ok (.i2l, 1) := by decide +kernel
theorem d_BT_changePrices_57 : decode prog_1_method_36_code 57 = .ok (.aload 6, 2) := by decide +kernel
theorem d_BT_changePrices_59 : decode prog_1_method_36_code 59 = .ok (.getfield 162, 3) := by decide +kernel
theorem d_BT_changePrices_62 : decode prog_1_method_36_code 62 = .ok (.lsub, 1) := by decide +kernel
theorem d_BT_changePrices_63 : decode prog_1_method_36_code 63 = .ok (.lload_n 3, 1) := by decide +kernel
theorem d_BT_changePrices_64 : decode prog_1_method_36_code 64 = .ok (.lmul, 1) := by decide +kernel
theorem d_BT_changePrices_65 : decode prog_1_method_36_code 65 = .ok (.ladd, 1) := by decide +kernel
theorem d_BT_changePrices_66 : decode prog_1_method_36_code 66 = .ok (.lstore 7, 2) := by decide +kernel
theorem d_BT_changePrices_68 : decode prog_1_method_36_code 68 = .ok (.aload 6, 2) := by decide +kernel
theorem d_BT_changePrices_70 : decode prog_1_method_36_code 70 = .ok (.lconst 0, 1) := by decide +kernel
theorem d_BT_changePrices_71 : decode prog_1_method_36_code 71 = .ok (.lload 7, 2) := by decide +kernel
theorem d_BT_changePrices_73 : decode prog_1_method_36_code 73 = .ok (.invokestatic 292, 3) := by decide +kernel
theorem d_BT_changePrices_76 : decode prog_1_method_36_code 76 = .ok (.putfield 215, 3) := by decide +kernel
theorem d_BT_changePrices_79 : decode prog_1_method_36_code 79 = .ok (.iinc 5 1, 3) := by decide +kernel
theorem d_BT_changePrices_82 : decode prog_1_method_36_code 82 = .ok (.goto (-64), 3) := by decide +kernel
theorem d_BT_changePrices_85 : decode prog_1_method_36_code 85 = .ok (.return_, 1) := by decide +kernel
