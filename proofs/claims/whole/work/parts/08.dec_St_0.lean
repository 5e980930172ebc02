theorem d_St_init_0 : decode prog_5_method_1_code 0 = .ok (.aload_n 0, 1) := by decide +kernel
theorem d_St_init_1 : decode prog_5_method_1_code 1 = .ok (.invokespecial 3, 3) := by decide +kernel
theorem d_St_init_4 : decode prog_5_method_1_code 4 = .ok (.aload_n 0, 1) := by decide +kernel
theorem d_St_init_5 : decode prog_5_method_1_code 5 = .ok (.bipush 60, 2) := by decide +kernel
theorem d_St_init_7 : decode prog_5_method_1_code 7 = .ok (.newarray .int, 2) := by decide +kernel
theorem d_St_init_9 : decode prog_5_method_1_code 9 = .ok (.putfield 9, 3) := by decide +kernel
theorem d_St_init_12 : decode prog_5_method_1_code 12 = .ok (.aload_n 0, 1) := by decide +kernel
theorem d_St_init_13 : decode prog_5_method_1_code 13 = .ok (.bipush 60, 2) := by decide +kernel
theorem d_St_init_15 : decode prog_5_method_1_code 15 = .ok (.newarray .int, 2) := by decide +kernel
theorem d_St_init_17 : decode prog_5_method_1_code 17 = .ok (.putfield 15, 3) := by decide +kernel
theorem d_St_init_20 : decode prog_5_method_1_code 20 = .ok (.aload_n 0, 1) := by decide +kernel
theorem d_St_init_21 : decode prog_5_method_1_code 21 = .ok (.bipush 60, 2) := by decide +kernel
theorem d_St_init_23 : decode prog_5_method_1_code 23 = .ok (.newarray .int, 2) := by decide +kernel
theorem d_St_init_25 : decode prog_5_method_1_code 25 = .ok (.putfield 18, 3) := by decide +kernel
theorem d_St_init_28 : decode prog_5_method_1_code 28 = .ok (.aload_n 0, 1) := by decide +kernel
theorem d_St_init_29 : decode prog_5_method_1_code 29 = .ok (.bipush 20, 2) := by decide +kernel
theorem d_St_init_31 : decode prog_5_method_1_code 31 = .ok (.newarray .int, 2) := by decide +kernel
theorem d_St_init_33 : decode prog_5_method_1_code 33 = .ok (.putfield 21, 3) := by decide +kernel
theorem d_St_init_36 : decode prog_5_method_1_code 36 = .ok (.aload_n 0, 1) := by decide +kernel
theorem d_St_init_37 : decode prog_5_method_1_code 37 = .ok (.bipush 20, 2) := by decide +kernel
theorem d_St_init_39 : decode prog_5_method_1_code 39 = .ok (.newarray .int, 2) := by decide +kernel
theorem d_St_init_41 : decode prog_5_method_1_code 41 = .ok (.putfield 24, 3) := by decide +kernel
theorem d_St_init_44 : decode prog_5_method_1_code 44 = .ok (.aload_n 0, 1) := by decide +kernel
theorem d_St_init_45 : decode prog_5_method_1_code 45 = .ok (.bipush 20, 2) := by decide +kernel
theorem d_St_init_47 : decode prog_5_method_1_code 47 = .ok (.newarray .int, 2) := by decide +kernel
theorem d_St_init_49 : decode prog_5_method_1_code 49 = .ok (.putfield 27, 3) := by decide +kernel
theorem d_St_init_52 : decode prog_5_method_1_code 52 = .ok (.aload_n 0, 1) := by decide +kernel
theorem d_St_init_53 : decode prog_5_method_1_code 53 = .ok (.bipush 81, 2) := by decide +kernel
theorem d_St_init_55 : decode prog_5_method_1_code 55 = .ok (.newarray .boolean, 2) := by decide +kernel
theorem d_St_init_57 : decode prog_5_method_1_code 57 = .ok (.putfield 30, 3) := by decide +kernel
theorem d_St_init_60 : decode prog_5_method_1_code 60 = .ok (.aload_n 0, 1) := by decide +kernel
theorem d_St_init_61 : decode prog_5_method_1_code 61 = .ok (.bipush 8, 2) := by decide +kernel
theorem d_St_init_63 : decode prog_5_method_1_code 63 = .ok (.bipush 80, 2) := by decide +kernel
theorem d_St_init_65 : decode prog_5_method_1_code 65 = .ok (.multianewarray 34 2, 4) := by decide +kernel
theorem d_St_init_69 : decode prog_5_method_1_code 69 = .ok (.putfield 36, 3) := by decide +kernel
theorem d_St_init_72 : decode prog_5_method_1_code 72 = .ok (.aload_n 0, 1) := by decide +kernel
theorem d_St_init_73 : decode prog_5_method_1_code 73 = .ok (.iconst 0, 1) := by decide +kernel
theorem d_St_init_74 : decode prog_5_method_1_code 74 = .ok (.putfield 39, 3) := by decide +kernel
theorem d_St_init_77 : decode prog_5_method_1_code 77 = .ok (.aload_n 0, 1) := by decide +kernel
theorem d_St_init_78 : decode prog_5_method_1_code 78 = .ok (.iconst 0, 1) := by decide +kernel
theorem d_St_init_79 : decode prog_5_method_1_code 79 = .ok (.putfield 43, 3) := by decide +kernel
theorem d_St_init_82 : decode prog_5_method_1_code 82 = .ok (.aload_n 0, 1) := by decide +kernel
theorem d_St_init_83 : decode prog_5_method_1_code 83 = .ok (.iconst 0, 1) := by decide +kernel
theorem d_St_init_84 : decode prog_5_method_1_code 84 = .ok (.putfield 46, 3) := by decide +kernel
theorem d_St_init_87 : decode prog_5_method_1_code 87 = .ok (.aload_n 0, 1) := by decide +kernel
theorem d_St_init_88 : decode prog_5_method_1_code 88 = .ok (.iconst 1, 1) := by decide +kernel
theorem d_St_init_89 : decode prog_5_method_1_code 89 = .ok (.iload_n 1, 1) := by decide +kernel
theorem d_St_init_90 : decode prog_5_method_1_code 90 = .ok (.invokestatic 49, 3) := by decide +kernel
theorem d_St_init_93 : decode prog_5_method_1_code 93 = .ok (.putfield 55, 3) := by decide +kernel
theorem d_St_init_96 : decode prog_5_method_1_code 96 = .ok (.return_, 1) := by decide +kernel
theorem d_St_takesPoint_0 : decode prog_5_method_2_code 0 = .ok (.iload_n 1, 1) := by decide +kernel
theorem d_St_takesPoint_1 : decode prog_5_method_2_code 1 = .ok (.aload_n 0, 1) := by decide +kernel
theorem d_St_takesPoint_2 : decode prog_5_method_2_code 2 = .ok (.getfield 55, 3) := by decide +kernel
theorem d_St_takesPoint_5 : decode prog_5_method_2_code 5 = .ok (.idiv, 1) := by decide +kernel
theorem d_St_takesPoint_6 : decode prog_5_method_2_code 6 = .ok (.bipush 80, 2) := by decide +kernel
theorem d_St_takesPoint_8 : decode prog_5_method_2_code 8 = .ok (.if_icmp .le 5, 3) := by decide +kernel
theorem d_St_takesPoint_11 : decode prog_5_method_2_code 11 = .ok (.iconst 0, 1) := by decide +kernel
theorem d_St_takesPoint_12 : decode prog_5_method_2_code 12 = .ok (.ireturn, 1) := by decide +kernel
theorem d_St_takesPoint_13 : decode prog_5_method_2_code 13 = .ok (.aload_n 0, 1) := by decide +kernel
theorem d_St_takesPoint_14 : decode prog_5_method_2_code 14 = .ok (.getfield 39, 3) := by decide +kernel
theorem d_St_takesPoint_17 : decode prog_5_method_2_code 17 = .ok (.ifCond .ne 13, 3) := by decide +kernel
theorem d_St_takesPoint_20 : decode prog_5_method_2_code 20 = .ok (.iload_n 1, 1) := by decide +kernel
theorem d_St_takesPoint_21 : decode prog_5_method_2_code 21 = .ok (.ifCond .ne 7, 3) := by decide +kernel
theorem d_St_takesPoint_24 : decode prog_5_method_2_code 24 = .ok (.iconst 1, 1) := by decide +kernel
theorem d_St_takesPoint_25 : decode prog_5_method_2_code 25 = .ok (.goto 4, 3) := by decide +kernel
theorem d_St_takesPoint_28 : decode prog_5_method_2_code 28 = .ok (.iconst 0, 1) := by decide +kernel
theorem d_St_takesPoint_29 : decode prog_5_method_2_code 29 = .ok (.ireturn, 1) := by decide +kernel
theorem d_St_takesPoint_30 : decode prog_5_method_2_code 30 = .ok (.iload_n 1, 1) := by decide +kernel
theorem d_St_takesPoint_31 : decode prog_5_method_2_code 31 = .ok (.aload_n 0, 1) := by decide +kernel
theorem d_St_takesPoint_32 : decode prog_5_method_2_code 32 = .ok (.getfield 9, 3) := by decide +kernel
theorem d_St_takesPoint_35 : decode prog_5_method_2_code 35 = .ok (.aload_n 0, 1) := by decide +kernel
theorem d_St_takesPoint_36 : decode prog_5_method_2_code 36 = .ok (.getfield 39, 3) := by decide +kernel
theorem d_St_takesPoint_39 : decode prog_5_method_2_code 39 = .ok (.iconst 1, 1) := by decide +kernel
theorem d_St_takesPoint_40 : decode prog_5_method_2_code 40 = .ok (.isub, 1) := by decide +kernel
theorem d_St_takesPoint_41 : decode prog_5_method_2_code 41 = .ok (.iaload, 1) := by decide +kernel
theorem d_St_takesPoint_42 : decode prog_5_method_2_code 42 = .ok (.if_icmp .le 22, 3) := by decide +kernel
theorem d_St_takesPoint_45 : decode prog_5_method_2_code 45 = .ok (.iload_n 2, 1) := by decide +kernel
theorem d_St_takesPoint_46 : decode prog_5_method_2_code 46 = .ok (.aload_n 0, 1) := by decide +kernel
theorem d_St_takesPoint_47 : decode prog_5_method_2_code 47 = .ok (.getfield 15, 3) := by decide +kernel
theorem d_St_takesPoint_50 : decode prog_5_method_2_code 50 = .ok (.aload_n 0, 1) := by decide +kernel
theorem d_St_takesPoint_51 : decode prog_5_method_2_code 51 = .ok (.getfield 39, 3) := by decide +kernel
theorem d_St_takesPoint_54 : decode prog_5_method_2_code 54 = .ok (.iconst 1, 1) := by decide +kernel
theorem d_St_takesPoint_55 : decode prog_5_method_2_code 55 = .ok (.isub, 1) := by decide +kernel
theorem d_St_takesPoint_56 : decode prog_5_method_2_code 56 = .ok (.iaload, 1) := by decide +kernel
theorem d_St_takesPoint_57 : decode prog_5_method_2_code 57 = .ok (.if_icmp .gt 7, 3) := by decide +kernel
theorem d_St_takesPoint_60 : decode prog_5_method_2_code 60 = .ok (.iconst 1, 1) := by decide +kernel
theorem d_St_takesPoint_61 : decode prog_5_method_2_code 61 = .ok (.goto 4, 3) := by decide +kernel
theorem d_St_takesPoint_64 : decode prog_5_method_2_code 64 = .ok (.iconst 0, 1) := by decide +kernel
theorem d_St_takesPoint_65 : decode prog_5_method_2_code 65 = .ok (.ireturn, 1) := by decide +kernel
theorem d_St_addPoint_0 : decode prog_5_method_3_code 0 = .ok (.aload_n 0, 1) := by decide +kernel
theorem d_St_addPoint_1 : decode prog_5_method_3_code 1 = .ok (.getfield 9, 3) := by decide +kernel
theorem d_St_addPoint_4 : decode prog_5_method_3_code 4 = .ok (.aload_n 0, 1) := by decide +kernel
theorem d_St_addPoint_5 : decode prog_5_method_3_code 5 = .ok (.getfield 39, 3) := by decide +kernel
theorem d_St_addPoint_8 : decode prog_5_method_3_code 8 = .ok (.iload_n 1, 1) := by decide +kernel
theorem d_St_addPoint_9 : decode prog_5_method_3_code 9 = .ok (.iastore, 1) := by decide +kernel
theorem d_St_addPoint_10 : decode prog_5_method_3_code 10 = .ok (.aload_n 0, 1) := by decide +kernel
theorem d_St_addPoint_11 : decode prog_5_method_3_code 11 = .ok (.getfield 15, 3) := by decide +kernel
theorem d_St_addPoint_14 : decode prog_5_method_3_code 14 = .ok (.aload_n 0, 1) := by decide +kernel
theorem d_St_addPoint_15 : decode prog_5_method_3_code 15 = .ok (.getfield 39, 3) := by decide +kernel
theorem d_St_addPoint_18 : decode prog_5_method_3_code 18 = .ok (.iload_n 2, 1) := by decide +kernel
theorem d_St_addPoint_19 : decode prog_5_method_3_code 19 = .ok (.iastore, 1) := by decide +kernel
theorem d_St_addPoint_20 : decode prog_5_method_3_code 20 = .ok (.aload_n 0, 1) := by decide +kernel
theorem d_St_addPoint_21 : decode prog_5_method_3_code 21 = .ok (.getfield 18, 3) := by decide +kernel
theorem d_St_addPoint_24 : decode prog_5_method_3_code 24 = .ok (.aload_n 0, 1) := by decide +kernel
theorem d_St_addPoint_25 : decode prog_5_method_3_code 25 = .ok (.getfield 39, 3) := by decide +kernel
theorem d_St_addPoint_28 : decode prog_5_method_3_code 28 = .ok (.iload_n 3, 1) := by decide +kernel
theorem d_St_addPoint_29 : decode prog_5_method_3_code 29 = .ok (.iastore, 1) := by decide +kernel
theorem d_St_addPoint_30 : decode prog_5_method_3_code 30 = .ok (.aload_n 0, 1) := by decide +kernel
theorem d_St_addPoint_31 : decode prog_5_method_3_code 31 = .ok (.dup, 1) := by decide +kernel
theorem d_St_addPoint_32 : decode prog_5_method_3_code 32 = .ok (.getfield 39, 3) := by decide +kernel
theorem d_St_addPoint_35 : decode prog_5_method_3_code 35 = .ok (.iconst 1, 1) := by decide +kernel
theorem d_St_addPoint_36 : decode prog_5_method_3_code 36 = .ok (.iadd, 1) := by decide +kernel
theorem d_St_addPoint_37 : decode prog_5_method_3_code 37 = .ok (.putfield 39, 3) := by decide +kernel
theorem d_St_addPoint_40 : decode prog_5_method_3_code 40 = .ok (.aload_n 0, 1) := by decide +kernel
theorem d_St_addPoint_41 : decode prog_5_method_3_code 41 = .ok (.iload_n 1, 1) := by decide +kernel
theorem d_St_addPoint_42 : decode prog_5_method_3_code 42 = .ok (.aload_n 0, 1) := by decide +kernel
theorem d_St_addPoint_43 : decode prog_5_method_3_code 43 = .ok (.getfield 55, 3) := by decide +kernel
theorem d_St_addPoint_46 : decode prog_5_method_3_code 46 = .ok (.idiv, 1) := by decide +kernel
theorem d_St_addPoint_47 : decode prog_5_method_3_code 47 = .ok (.putfield 46, 3) := by decide +kernel
theorem d_St_addPoint_50 : decode prog_5_method_3_code 50 = .ok (.return_, 1) := by decide +kernel
theorem d_St_addFault_0 : decode prog_5_method_4_code 0 = .ok (.aload_n 0, 1) := by decide +kernel
theorem d_St_addFault_1 : decode prog_5_method_4_code 1 = .ok (.getfield 21, 3) := by decide +kernel
theorem d_St_addFault_4 : decode prog_5_method_4_code 4 = .ok (.aload_n 0, 1) := by decide +kernel
theorem d_St_addFault_5 : decode prog_5_method_4_code 5 = .ok (.getfield 43, 3) := by decide +kernel
theorem d_St_addFault_8 : decode prog_5_method_4_code 8 = .ok (.iload_n 1, 1) := by decide +kernel
theorem d_St_addFault_9 : decode prog_5_method_4_code 9 = .ok (.iastore, 1) := by decide +kernel
theorem d_St_addFault_10 : decode prog_5_method_4_code 10 = .ok (.aload_n 0, 1) := by decide +kernel
theorem d_St_addFault_11 : decode prog_5_method_4_code 11 = .ok (.getfield 24, 3) := by decide +kernel
theorem d_St_addFault_14 : decode prog_5_method_4_code 14 = .ok (.aload_n 0, 1) := by decide +kernel
theorem d_St_addFault_15 : decode prog_5_method_4_code 15 = .ok (.getfield 43, 3) := by decide +kernel
theorem d_St_addFault_18 : decode prog_5_method_4_code 18 = .ok (.iload_n 2, 1) := by decide +kernel
theorem d_St_addFault_19 : decode prog_5_method_4_code 19 = .ok (.iastore, 1) := by decide +kernel
theorem d_St_addFault_20 : decode prog_5_method_4_code 20 = .ok (.aload_n 0, 1) := by decide +kernel
theorem d_St_addFault_21 : decode prog_5_method_4_code 21 = .ok (.getfield 27, 3) := by decide +kernel
theorem d_St_addFault_24 : decode prog_5_method_4_code 24 = .ok (.aload_n 0, 1) := by decide +kernel
theorem d_St_addFault_25 : decode prog_5_method_4_code 25 = .ok (.getfield 43, 3) := by decide +kernel
theorem d_St_addFault_28 : decode prog_5_method_4_code 28 = .ok (.iload_n 3, 1) := by decide +kernel
theorem d_St_addFault_29 : decode prog_5_method_4_code 29 = .ok (.iastore, 1) := by decide +kernel
theorem d_St_addFault_30 : decode prog_5_method_4_code 30 = .ok (.aload_n 0, 1) := by decide +kernel
theorem d_St_addFault_31 : decode prog_5_method_4_code 31 = .ok (.dup, 1) := by decide +kernel
theorem d_St_addFault_32 : decode prog_5_method_4_code 32 = .ok (.getfield 43, 3) := by decide +kernel
theorem d_St_addFault_35 : decode prog_5_method_4_code 35 = .ok (.iconst 1, 1) := by decide +kernel
theorem d_St_addFault_36 : decode prog_5_method_4_code 36 = .ok (.iadd, 1) := by decide +kernel
theorem d_St_addFault_37 : decode prog_5_method_4_code 37 = .ok (.putfield 43, 3) := by decide +kernel
theorem d_St_addFault_40 : decode prog_5_method_4_code 40 = .ok (.return_, 1) := by decide +kernel
theorem d_St_endAt_0 : decode prog_5_method_5_code 0 = .ok (.iload_n 1, 1) := by decide +kernel
theorem d_St_endAt_1 : decode prog_5_method_5_code 1 = .ok (.ifCond .le 29, 3) := by decide +kernel
theorem d_St_endAt_4 : decode prog_5_method_5_code 4 = .ok (.iload_n 1, 1) := by decide +kernel
theorem d_St_endAt_5 : decode prog_5_method_5_code 5 = .ok (.aload_n 0, 1) := by decide +kernel
theorem d_St_endAt_6 : decode prog_5_method_5_code 6 = .ok (.getfield 55, 3) := by decide +kernel
theorem d_St_endAt_9 : decode prog_5_method_5_code 9 = .ok (.irem, 1) := by decide +kernel
theorem d_St_endAt_10 : decode prog_5_method_5_code 10 = .ok (.ifCond .ne 20, 3) := by decide +kernel
theorem d_St_endAt_13 : decode prog_5_method_5_code 13 = .ok (.iload_n 1, 1) := by decide +kernel
theorem d_St_endAt_14 : decode prog_5_method_5_code 14 = .ok (.aload_n 0, 1) := by decide +kernel
theorem d_St_endAt_15 : decode prog_5_method_5_code 15 = .ok (.getfield 55, 3) := by decide +kernel
theorem d_St_endAt_18 : decode prog_5_method_5_code 18 = .ok (.idiv, 1) := by decide +kernel
theorem d_St_endAt_19 : decode prog_5_method_5_code 19 = .ok (.aload_n 0, 1) := by decide +kernel
theorem d_St_endAt_20 : decode prog_5_method_5_code 20 = .ok (.getfield 46, 3) := by decide +kernel
theorem d_St_endAt_23 : decode prog_5_method_5_code 23 = .ok (.if_icmp .gt 7, 3) := by decide +kernel
theorem d_St_endAt_26 : decode prog_5_method_5_code 26 = .ok (.iconst 1, 1) := by decide +kernel
theorem d_St_endAt_27 : decode prog_5_method_5_code 27 = .ok (.goto 4, 3) := by decide +kernel
theorem d_St_endAt_30 : decode prog_5_method_5_code 30 = .ok (.iconst 0, 1) := by decide +kernel
theorem d_St_endAt_31 : decode prog_5_method_5_code 31 = .ok (.istore_n 2, 1) := by decide +kernel
theorem d_St_endAt_32 : decode prog_5_method_5_code 32 = .ok (.iload_n 2, 1) := by decide +kernel
theorem d_St_endAt_33 : decode prog_5_method_5_code 33 = .ok (.ifCond .eq 12, 3) := by decide +kernel
theorem d_St_endAt_36 : decode prog_5_method_5_code 36 = .ok (.iload_n 1, 1) := by decide +kernel
theorem d_St_endAt_37 : decode prog_5_method_5_code 37 = .ok (.aload_n 0, 1) := by decide +kernel
theorem d_St_endAt_38 : decode prog_5_method_5_code 38 = .ok (.getfield 55, 3) := by decide +kernel
theorem d_St_endAt_41 : decode prog_5_method_5_code 41 = .ok (.idiv, 1) := by decide +kernel
theorem d_St_endAt_42 : decode prog_5_method_5_code 42 = .ok (.goto 4, 3) := by decide +kernel
theorem d_St_endAt_45 : decode prog_5_method_5_code 45 = .ok (.iconst (-1), 1) := by decide +kernel
theorem d_St_endAt_46 : decode prog_5_method_5_code 46 = .ok (.ireturn, 1) := by decide +kernel
theorem d_St_findReach_0 : decode prog_5_method_6_code 0 = .ok (.aload_n 0, 1) := by decide +kernel
theorem d_St_findReach_1 : decode prog_5_method_6_code 1 = .ok (.getfield 36, 3) := by decide +kernel
theorem d_St_findReach_4 : decode prog_5_method_6_code 4 = .ok (.iload_n 1, 1) := by decide +kernel
theorem d_St_findReach_5 : decode prog_5_method_6_code 5 = .ok (.aaload, 1) := by decide +kernel
theorem d_St_findReach_6 : decode prog_5_method_6_code 6 = .ok (.astore 4, 2) := by decide +kernel
theorem d_St_findReach_8 : decode prog_5_method_6_code 8 = .ok (.aload_n 0, 1) := by decide +kernel
theorem d_St_findReach_9 : decode prog_5_method_6_code 9 = .ok (.aload 4, 2) := by decide +kernel
theorem d_St_findReach_11 : decode prog_5_method_6_code 11 = .ok (.aload_n 2, 1) := by decide +kernel
theorem d_St_findReach_12 : decode prog_5_method_6_code 12 = .ok (.invokevirtual 58, 3) := by decide +kernel
theorem d_St_findReach_15 : decode prog_5_method_6_code 15 = .ok (.aload_n 0, 1) := by decide +kernel
theorem d_St_findReach_16 : decode prog_5_method_6_code 16 = .ok (.aload 4, 2) := by decide +kernel
theorem d_St_findReach_18 : decode prog_5_method_6_code 18 = .ok (.aload_n 2, 1) := by decide +kernel
theorem d_St_findReach_19 : decode prog_5_method_6_code 19 = .ok (.iload_n 3, 1) := by decide +kernel
theorem d_St_findReach_20 : decode prog_5_method_6_code 20 = .ok (.invokevirtual 62, 3) := by decide +kernel
theorem d_St_findReach_23 : decode prog_5_method_6_code 23 = .ok (.aload_n 0, 1) := by decide +kernel
theorem d_St_findReach_24 : decode prog_5_method_6_code 24 = .ok (.aload 4, 2) := by decide +kernel
theorem d_St_findReach_26 : decode prog_5_method_6_code 26 = .ok (.aload_n 2, 1) := by decide +kernel
theorem d_St_findReach_27 : decode prog_5_method_6_code 27 = .ok (.invokevirtual 66, 3) := by decide +kernel
theorem d_St_findReach_30 : decode prog_5_method_6_code 30 = .ok (.return_, 1) := by decide +kernel
theorem d_St_reachByLengthAndCuts_0 : decode prog_5_method_7_code 0 = .ok (.aload_n 0, 1) := by decide +kernel
theorem d_St_reachByLengthAndCuts_1 : decode prog_5_method_7_code 1 = .ok (.getfield 46, 3) := by decide +kernel
theorem d_St_reachByLengthAndCuts_4 : decode prog_5_method_7_code 4 = .ok (.istore_n 3, 1) := by decide +kernel
theorem d_St_reachByLengthAndCuts_5 : decode prog_5_method_7_code 5 = .ok (.aload_n 0, 1) := by decide +kernel
theorem d_St_reachByLengthAndCuts_6 : decode prog_5_method_7_code 6 = .ok (.getfield 46, 3) := by decide +kernel
theorem d_St_reachByLengthAndCuts_9 : decode prog_5_method_7_code 9 = .ok (.iconst 1, 1) := by decide +kernel
theorem d_St_reachByLengthAndCuts_10 : decode prog_5_method_7_code 10 = .ok (.isub, 1) := by decide +kernel
theorem d_St_reachByLengthAndCuts_11 : decode prog_5_method_7_code 11 = .ok (.istore 4, 2) := by decide +kernel
theorem d_St_reachByLengthAndCuts_13 : decode prog_5_method_7_code 13 = .ok (.iload 4, 2) := by decide +kernel
theorem d_St_reachByLengthAndCuts_15 : decode prog_5_method_7_code 15 = .ok (.ifCond .lt 41, 3) := by decide +kernel
theorem d_St_reachByLengthAndCuts_18 : decode prog_5_method_7_code 18 = .ok (.aload_n 0, 1) := by decide +kernel
theorem d_St_reachByLengthAndCuts_19 : decode prog_5_method_7_code 19 = .ok (.getfield 30, 3) := by decide +kernel
theorem d_St_reachByLengthAndCuts_22 : decode prog_5_method_7_code 22 = .ok (.iload 4, 2) := by decide +kernel
theorem d_St_reachByLengthAndCuts_24 : decode prog_5_method_7_code 24 = .ok (.iconst 1, 1) := by decide +kernel
theorem d_St_reachByLengthAndCuts_25 : decode prog_5_method_7_code 25 = .ok (.iadd, 1) := by decide +kernel
theorem d_St_reachByLengthAndCuts_26 : decode prog_5_method_7_code 26 = .ok (.baload, 1) := by decide +kernel
theorem d_St_reachByLengthAndCuts_27 : decode prog_5_method_7_code 27 = .ok (.ifCond .eq 8, 3) := by decide +kernel
theorem d_St_reachByLengthAndCuts_30 : decode prog_5_method_7_code 30 = .ok (.iload 4, 2) := by decide +kernel
theorem d_St_reachByLengthAndCuts_32 : decode prog_5_method_7_code 32 = .ok (.iconst 1, 1) := by decide +kernel
theorem d_St_reachByLengthAndCuts_33 : decode prog_5_method_7_code 33 = .ok (.iadd, 1) := by decide +kernel
theorem d_St_reachByLengthAndCuts_34 : decode prog_5_method_7_code 34 = .ok (.istore_n 3, 1) := by decide +kernel
theorem d_St_reachByLengthAndCuts_35 : decode prog_5_method_7_code 35 = .ok (.aload_n 1, 1) := by decide +kernel
theorem d_St_reachByLengthAndCuts_36 : decode prog_5_method_7_code 36 = .ok (.iload 4, 2) := by decide +kernel
theorem d_St_reachByLengthAndCuts_38 : decode prog_5_method_7_code 38 = .ok (.iload_n 3, 1) := by decide +kernel
theorem d_St_reachByLengthAndCuts_39 : decode prog_5_method_7_code 39 = .ok (.iload 4, 2) := by decide +kernel
theorem d_St_reachByLengthAndCuts_41 : decode prog_5_method_7_code 41 = .ok (.aload_n 2, 1) := by decide +kernel
theorem d_St_reachByLengthAndCuts_42 : decode prog_5_method_7_code 42 = .ok (.getfield 69, 3) := by decide +kernel
theorem d_St_reachByLengthAndCuts_45 : decode prog_5_method_7_code 45 = .ok (.iadd, 1) := by decide +kernel
theorem d_St_reachByLengthAndCuts_46 : decode prog_5_method_7_code 46 = .ok (.invokestatic 74, 3) := by decide +kernel
theorem d_St_reachByLengthAndCuts_49 : decode prog_5_method_7_code 49 = .ok (.iastore, 1) := by decide +kernel
theorem d_St_reachByLengthAndCuts_50 : decode prog_5_method_7_code 50 = .ok (.iinc 4 (-1), 3) := by decide +kernel
theorem d_St_reachByLengthAndCuts_53 : decode prog_5_method_7_code 53 = .ok (.goto (-40), 3) := by decide +kernel
theorem d_St_reachByLengthAndCuts_56 : decode prog_5_method_7_code 56 = .ok (.return_, 1) := by decide +kernel
theorem d_St_narrowByPoints_0 : decode prog_5_method_8_code 0 = .ok (.aload_n 0, 1) := by decide +kernel
theorem d_St_narrowByPoints_1 : decode prog_5_method_8_code 1 = .ok (.getfield 39, 3) := by decide +kernel
theorem d_St_narrowByPoints_4 : decode prog_5_method_8_code 4 = .ok (.istore 4, 2) := by decide +kernel
theorem d_St_narrowByPoints_6 : decode prog_5_method_8_code 6 = .ok (.aload_n 0, 1) := by decide +kernel
theorem d_St_narrowByPoints_7 : decode prog_5_method_8_code 7 = .ok (.getfield 39, 3) := by decide +kernel
theorem d_St_narrowByPoints_10 : decode prog_5_method_8_code 10 = .ok (.istore 5, 2) := by decide +kernel
theorem d_St_narrowByPoints_12 : decode prog_5_method_8_code 12 = .ok (.aload_n 0, 1) := by decide +kernel
theorem d_St_narrowByPoints_13 : decode prog_5_method_8_code 13 = .ok (.getfield 46, 3) := by decide +kernel
theorem d_St_narrowByPoints_16 : decode prog_5_method_8_code 16 = .ok (.iconst 1, 1) := by decide +kernel
theorem d_St_narrowByPoints_17 : decode prog_5_method_8_code 17 = .ok (.isub, 1) := by decide +kernel
theorem d_St_narrowByPoints_18 : decode prog_5_method_8_code 18 = .ok (.istore 6, 2) := by decide +kernel
theorem d_St_narrowByPoints_20 : decode prog_5_method_8_code 20 = .ok (.iload 6, 2) := by decide +kernel
theorem d_St_narrowByPoints_22 : decode prog_5_method_8_code 22 = .ok (.ifCond .lt 118, 3) := by decide +kernel
theorem d_St_narrowByPoints_25 : decode prog_5_method_8_code 25 = .ok (.iload 4, 2) := by decide +kernel
theorem d_St_narrowByPoints_27 : decode prog_5_method_8_code 27 = .ok (.ifCond .le 50, 3) := by decide +kernel
theorem d_St_narrowByPoints_30 : decode prog_5_method_8_code 30 = .ok (.iload 4, 2) := by decide +kernel
theorem d_St_narrowByPoints_32 : decode prog_5_method_8_code 32 = .ok (.aload_n 0, 1) := by decide +kernel
theorem d_St_narrowByPoints_33 : decode prog_5_method_8_code 33 = .ok (.getfield 39, 3) := by decide +kernel
theorem d_St_narrowByPoints_36 : decode prog_5_method_8_code 36 = .ok (.if_icmp .eq 20, 3) := by decide +kernel
theorem d_St_narrowByPoints_39 : decode prog_5_method_8_code 39 = .ok (.aload_n 0, 1) := by decide +kernel
theorem d_St_narrowByPoints_40 : decode prog_5_method_8_code 40 = .ok (.getfield 9, 3) := by decide +kernel
theorem d_St_narrowByPoints_43 : decode prog_5_method_8_code 43 = .ok (.iload 4, 2) := by decide +kernel
theorem d_St_narrowByPoints_45 : decode prog_5_method_8_code 45 = .ok (.iaload, 1) := by decide +kernel
theorem d_St_narrowByPoints_46 : decode prog_5_method_8_code 46 = .ok (.iload 6, 2) := by decide +kernel
theorem d_St_narrowByPoints_48 : decode prog_5_method_8_code 48 = .ok (.aload_n 0, 1) := by decide +kernel
theorem d_St_narrowByPoints_49 : decode prog_5_method_8_code 49 = .ok (.getfield 55, 3) := by decide +kernel
theorem d_St_narrowByPoints_52 : decode prog_5_method_8_code 52 = .ok (.imul, 1) := by decide +kernel
theorem d_St_narrowByPoints_53 : decode prog_5_method_8_code 53 = .ok (.if_icmp .le 24, 3) := by decide +kernel
theorem d_St_narrowByPoints_56 : decode prog_5_method_8_code 56 = .ok (.iinc 4 (-1), 3) := by decide +kernel
theorem d_St_narrowByPoints_59 : decode prog_5_method_8_code 59 = .ok (.aload_n 0, 1) := by decide +kernel
theorem d_St_narrowByPoints_60 : decode prog_5_method_8_code 60 = .ok (.iload 4, 2) := by decide +kernel
theorem d_St_narrowByPoints_62 : decode prog_5_method_8_code 62 = .ok (.aload_n 2, 1) := by decide +kernel
theorem d_St_narrowByPoints_63 : decode prog_5_method_8_code 63 = .ok (.iload_n 3, 1) := by decide +kernel
theorem d_St_narrowByPoints_64 : decode prog_5_method_8_code 64 = .ok (.invokevirtual 77, 3) := by decide +kernel
theorem d_St_narrowByPoints_67 : decode prog_5_method_8_code 67 = .ok (.ifCond .eq (-42), 3) := by decide +kernel
theorem d_St_narrowByPoints_70 : decode prog_5_method_8_code 70 = .ok (.iload 4, 2) := by decide +kernel
theorem d_St_narrowByPoints_72 : decode prog_5_method_8_code 72 = .ok (.istore 5, 2) := by decide +kernel
theorem d_St_narrowByPoints_74 : decode prog_5_method_8_code 74 = .ok (.goto (-49), 3) := by decide +kernel
theorem d_St_narrowByPoints_77 : decode prog_5_method_8_code 77 = .ok (.iload 5, 2) := by decide +kernel
theorem d_St_narrowByPoints_79 : decode prog_5_method_8_code 79 = .ok (.iload 4, 2) := by decide +kernel
theorem d_St_narrowByPoints_81 : decode prog_5_method_8_code 81 = .ok (.if_icmp .ne 19, 3) := by decide +kernel
theorem d_St_narrowByPoints_84 : decode prog_5_method_8_code 84 = .ok (.aload_n 1, 1) := by decide +kernel
theorem d_St_narrowByPoints_85 : decode prog_5_method_8_code 85 = .ok (.iload 6, 2) := by decide +kernel
theorem d_St_narrowByPoints_87 : decode prog_5_method_8_code 87 = .ok (.aload_n 1, 1) := by decide +kernel
theorem d_St_narrowByPoints_88 : decode prog_5_method_8_code 88 = .ok (.iload 6, 2) := by decide +kernel
theorem d_St_narrowByPoints_90 : decode prog_5_method_8_code 90 = .ok (.iaload, 1) := by decide +kernel
theorem d_St_narrowByPoints_91 : decode prog_5_method_8_code 91 = .ok (.iload 6, 2) := by decide +kernel
theorem d_St_narrowByPoints_93 : decode prog_5_method_8_code 93 = .ok (.invokestatic 74, 3) := by decide +kernel
theorem d_St_narrowByPoints_96 : decode prog_5_method_8_code 96 = .ok (.iastore, 1) := by decide +kernel
theorem d_St_narrowByPoints_97 : decode prog_5_method_8_code 97 = .ok (.goto 37, 3) := by decide +kernel
theorem d_St_narrowByPoints_100 : decode prog_5_method_8_code 100 = .ok (.iload 5, 2) := by decide +kernel
theorem d_St_narrowByPoints_102 : decode prog_5_method_8_code 102 = .ok (.aload_n 0, 1) := by decide +kernel
theorem d_St_narrowByPoints_103 : decode prog_5_method_8_code 103 = .ok (.getfield 39, 3) := by decide +kernel
theorem d_St_narrowByPoints_106 : decode prog_5_method_8_code 106 = .ok (.if_icmp .ge 28, 3) := by decide +kernel
theorem d_St_narrowByPoints_109 : decode prog_5_method_8_code 109 = .ok (.aload_n 1, 1) := by decide +kernel
theorem d_St_narrowByPoints_110 : decode prog_5_method_8_code 110 = .ok (.iload 6, 2) := by decide +kernel
theorem d_St_narrowByPoints_112 : decode prog_5_method_8_code 112 = .ok (.aload_n 1, 1) := by decide +kernel
theorem d_St_narrowByPoints_113 : decode prog_5_method_8_code 113 = .ok (.iload 6, 2) := by decide +kernel
theorem d_St_narrowByPoints_115 : decode prog_5_method_8_code 115 = .ok (.iaload, 1) := by decide +kernel
theorem d_St_narrowByPoints_116 : decode prog_5_method_8_code 116 = .ok (.aload_n 0, 1) := by decide +kernel
theorem d_St_narrowByPoints_117 : decode prog_5_method_8_code 117 = .ok (.getfield 9, 3) := by decide +kernel
theorem d_St_narrowByPoints_120 : decode prog_5_method_8_code 120 = .ok (.iload 5, 2) := by decide +kernel
theorem d_St_narrowByPoints_122 : decode prog_5_method_8_code 122 = .ok (.iconst 1, 1) := by decide +kernel
theorem d_St_narrowByPoints_123 : decode prog_5_method_8_code 123 = .ok (.isub, 1) := by decide +kernel
theorem d_St_narrowByPoints_124 : decode prog_5_method_8_code 124 = .ok (.iaload, 1) := by decide +kernel
theorem d_St_narrowByPoints_125 : decode prog_5_method_8_code 125 = .ok (.aload_n 0, 1) := by decide +kernel
theorem d_St_narrowByPoints_126 : decode prog_5_method_8_code 126 = .ok (.getfield 55, 3) := by decide +kernel
theorem d_St_narrowByPoints_129 : decode prog_5_method_8_code 129 = .ok (.idiv, 1) := by decide +kernel
theorem d_St_narrowByPoints_130 : decode prog_5_method_8_code 130 = .ok (.invokestatic 74, 3) := by decide +kernel
theorem d_St_narrowByPoints_133 : decode prog_5_method_8_code 133 = .ok (.iastore, 1) := by decide +kernel
theorem d_St_narrowByPoints_134 : decode prog_5_method_8_code 134 = .ok (.iinc 6 (-1), 3) := by decide +kernel
theorem d_St_narrowByPoints_137 : decode prog_5_method_8_code 137 = .ok (.goto (-117), 3) := by decide +kernel
theorem d_St_narrowByPoints_140 : decode prog_5_method_8_code 140 = .ok (.return_, 1) := by decide +kernel
theorem d_St_isTooBad_0 : decode prog_5_method_9_code 0 = .ok (.aload_n 0, 1) := by decide +kernel
theorem d_St_isTooBad_1 : decode prog_5_method_9_code 1 = .ok (.getfield 15, 3) := by decide +kernel
theorem d_St_isTooBad_4 : decode prog_5_method_9_code 4 = .ok (.iload_n 1, 1) := by decide +kernel
theorem d_St_isTooBad_5 : decode prog_5_method_9_code 5 = .ok (.iaload, 1) := by decide +kernel
theorem d_St_isTooBad_6 : decode prog_5_method_9_code 6 = .ok (.iload_n 3, 1) := by decide +kernel
theorem d_St_isTooBad_7 : decode prog_5_method_9_code 7 = .ok (.isub, 1) := by decide +kernel
theorem d_St_isTooBad_8 : decode prog_5_method_9_code 8 = .ok (.aload_n 2, 1) := by decide +kernel
theorem d_St_isTooBad_9 : decode prog_5_method_9_code 9 = .ok (.getfield 81, 3) := by decide +kernel
theorem d_St_isTooBad_12 : decode prog_5_method_9_code 12 = .ok (.if_icmp .lt 18, 3) := by decide +kernel
theorem d_St_isTooBad_15 : decode prog_5_method_9_code 15 = .ok (.aload_n 0, 1) := by decide +kernel
theorem d_St_isTooBad_16 : decode prog_5_method_9_code 16 = .ok (.getfield 18, 3) := by decide +kernel
theorem d_St_isTooBad_19 : decode prog_5_method_9_code 19 = .ok (.iload_n 1, 1) := by decide +kernel
theorem d_St_isTooBad_20 : decode prog_5_method_9_code 20 = .ok (.iaload, 1) := by decide +kernel
theorem d_St_isTooBad_21 : decode prog_5_method_9_code 21 = .ok (.iload_n 3, 1) := by decide +kernel
theorem d_St_isTooBad_22 : decode prog_5_method_9_code 22 = .ok (.iadd, 1) := by decide +kernel
theorem d_St_isTooBad_23 : decode prog_5_method_9_code 23 = .ok (.aload_n 2, 1) := by decide +kernel
theorem d_St_isTooBad_24 : decode prog_5_method_9_code 24 = .ok (.getfield 84, 3) := by decide +kernel
theorem d_St_isTooBad_27 : decode prog_5_method_9_code 27 = .ok (.if_icmp .le 7, 3) := by decide +kernel
theorem d_St_isTooBad_30 : decode prog_5_method_9_code 30 = .ok (.iconst 1, 1) := by decide +kernel
theorem d_St_isTooBad_31 : decode prog_5_method_9_code 31 = .ok (.goto 4, 3) := by decide +kernel
theorem d_St_isTooBad_34 : decode prog_5_method_9_code 34 = .ok (.iconst 0, 1) := by decide +kernel
theorem d_St_isTooBad_35 : decode prog_5_method_9_code 35 = .ok (.ireturn, 1) := by decide +kernel
theorem d_St_narrowByFaults_0 : decode prog_5_method_10_code 0 = .ok (.iconst 0, 1) := by decide +kernel
theorem d_St_narrowByFaults_1 : decode prog_5_method_10_code 1 = .ok (.istore_n 3, 1) := by decide +kernel
theorem d_St_narrowByFaults_2 : decode prog_5_method_10_code 2 = .ok (.iload_n 3, 1) := by decide +kernel
theorem d_St_narrowByFaults_3 : decode prog_5_method_10_code 3 = .ok (.aload_n 0, 1) := by decide +kernel
theorem d_St_narrowByFaults_4 : decode prog_5_method_10_code 4 = .ok (.getfield 43, 3) := by decide +kernel
theorem d_St_narrowByFaults_7 : decode prog_5_method_10_code 7 = .ok (.if_icmp .ge 79, 3) := by decide +kernel
theorem d_St_narrowByFaults_10 : decode prog_5_method_10_code 10 = .ok (.aload_n 2, 1) := by decide +kernel
theorem d_St_narrowByFaults_11 : decode prog_5_method_10_code 11 = .ok (.getfield 87, 3) := by decide +kernel
theorem d_St_narrowByFaults_14 : decode prog_5_method_10_code 14 = .ok (.aload_n 0, 1) := by decide +kernel
theorem d_St_narrowByFaults_15 : decode prog_5_method_10_code 15 = .ok (.getfield 27, 3) := by decide +kernel
theorem d_St_narrowByFaults_18 : decode prog_5_method_10_code 18 = .ok (.iload_n 3, 1) := by decide +kernel
theorem d_St_narrowByFaults_19 : decode prog_5_method_10_code 19 = .ok (.iaload, 1) := by decide +kernel
theorem d_St_narrowByFaults_20 : decode prog_5_method_10_code 20 = .ok (.baload, 1) := by decide +kernel
theorem d_St_narrowByFaults_21 : decode prog_5_method_10_code 21 = .ok (.ifCond .eq 59, 3) := by decide +kernel
theorem d_St_narrowByFaults_24 : decode prog_5_method_10_code 24 = .ok (.iconst 0, 1) := by decide +kernel
theorem d_St_narrowByFaults_25 : decode prog_5_method_10_code 25 = .ok (.istore 4, 2) := by decide +kernel
theorem d_St_narrowByFaults_27 : decode prog_5_method_10_code 27 = .ok (.iload 4, 2) := by decide +kernel
theorem d_St_narrowByFaults_29 : decode prog_5_method_10_code 29 = .ok (.aload_n 0, 1) := by decide +kernel
theorem d_St_narrowByFaults_30 : decode prog_5_method_10_code 30 = .ok (.getfield 46, 3) := by decide +kernel
theorem d_St_narrowByFaults_33 : decode prog_5_method_10_code 33 = .ok (.if_icmp .ge 47, 3) := by decide +kernel
theorem d_St_narrowByFaults_36 : decode prog_5_method_10_code 36 = .ok (.iload 4, 2) := by decide +kernel
theorem d_St_narrowByFaults_38 : decode prog_5_method_10_code 38 = .ok (.aload_n 0, 1) := by decide +kernel
theorem d_St_narrowByFaults_39 : decode prog_5_method_10_code 39 = .ok (.getfield 55, 3) := by decide +kernel
theorem d_St_narrowByFaults_42 : decode prog_5_method_10_code 42 = .ok (.imul, 1) := by decide +kernel
theorem d_St_narrowByFaults_43 : decode prog_5_method_10_code 43 = .ok (.aload_n 0, 1) := by decide +kernel
theorem d_St_narrowByFaults_44 : decode prog_5_method_10_code 44 = .ok (.getfield 24, 3) := by decide +kernel
theorem d_St_narrowByFaults_47 : decode prog_5_method_10_code 47 = .ok (.iload_n 3, 1) := by decide +kernel
theorem d_St_narrowByFaults_48 : decode prog_5_method_10_code 48 = .ok (.iaload, 1) := by decide +kernel
theorem d_St_narrowByFaults_49 : decode prog_5_method_10_code 49 = .ok (.if_icmp .ge 31, 3) := by decide +kernel
theorem d_St_narrowByFaults_52 : decode prog_5_method_10_code 52 = .ok (.aload_n 1, 1) := by decide +kernel
theorem d_St_narrowByFaults_53 : decode prog_5_method_10_code 53 = .ok (.iload 4, 2) := by decide +kernel
theorem d_St_narrowByFaults_55 : decode prog_5_method_10_code 55 = .ok (.aload_n 1, 1) := by decide +kernel
theorem d_St_narrowByFaults_56 : decode prog_5_method_10_code 56 = .ok (.iload 4, 2) := by decide +kernel
theorem d_St_narrowByFaults_58 : decode prog_5_method_10_code 58 = .ok (.iaload, 1) := by decide +kernel
theorem d_St_narrowByFaults_59 : decode prog_5_method_10_code 59 = .ok (.aload_n 0, 1) := by decide +kernel
theorem d_St_narrowByFaults_60 : decode prog_5_method_10_code 60 = .ok (.getfield 21, 3) := by decide +kernel
theorem d_St_narrowByFaults_63 : decode prog_5_method_10_code 63 = .ok (.iload_n 3, 1) := by decide +kernel
theorem d_St_narrowByFaults_64 : decode prog_5_method_10_code 64 = .ok (.iaload, 1) := by decide +kernel
theorem d_St_narrowByFaults_65 : decode prog_5_method_10_code 65 = .ok (.aload_n 0, 1) := by decide +kernel
theorem d_St_narrowByFaults_66 : decode prog_5_method_10_code 66 = .ok (.getfield 55, 3) := by decide +kernel
theorem d_St_narrowByFaults_69 : decode prog_5_method_10_code 69 = .ok (.idiv, 1) := by decide +kernel
theorem d_St_narrowByFaults_70 : decode prog_5_method_10_code 70 = .ok (.invokestatic 74, 3) := by decide +kernel
theorem d_St_narrowByFaults_73 : decode prog_5_method_10_code 73 = .ok (.iastore, 1) := by decide +kernel
theorem d_St_narrowByFaults_74 : decode prog_5_method_10_code 74 = .ok (.iinc 4 1, 3) := by decide +kernel
theorem d_St_narrowByFaults_77 : decode prog_5_method_10_code 77 = .ok (.goto (-50), 3) := by decide +kernel
theorem d_St_narrowByFaults_80 : decode prog_5_method_10_code 80 = .ok (.iinc 3 1, 3) := by decide +kernel
theorem d_St_narrowByFaults_83 : decode prog_5_method_10_code 83 = .ok (.goto (-81), 3) := by decide +kernel
theorem d_St_narrowByFaults_86 : decode prog_5_method_10_code 86 = .ok (.return_, 1) := by decide +kernel
