theorem d_Pr_init_0 : decode prog_4_method_1_code 0 = .ok (.aload_n 0, 1) := by decide +kernel
theorem d_Pr_init_1 : decode prog_4_method_1_code 1 = .ok (.invokespecial 3, 3) := by decide +kernel
theorem d_Pr_init_4 : decode prog_4_method_1_code 4 = .ok (.aload_n 0, 1) := by decide +kernel
theorem d_Pr_init_5 : decode prog_4_method_1_code 5 = .ok (.bipush 8, 2) := by decide +kernel
theorem d_Pr_init_7 : decode prog_4_method_1_code 7 = .ok (.newarray .boolean, 2) := by decide +kernel
theorem d_Pr_init_9 : decode prog_4_method_1_code 9 = .ok (.putfield 9, 3) := by decide +kernel
theorem d_Pr_init_12 : decode prog_4_method_1_code 12 = .ok (.aload_n 0, 1) := by decide +kernel
theorem d_Pr_init_13 : decode prog_4_method_1_code 13 = .ok (.bipush 7, 2) := by decide +kernel
theorem d_Pr_init_15 : decode prog_4_method_1_code 15 = .ok (.newarray .long, 2) := by decide +kernel
theorem d_Pr_init_17 : decode prog_4_method_1_code 17 = .ok (.putfield 15, 3) := by decide +kernel
theorem d_Pr_init_20 : decode prog_4_method_1_code 20 = .ok (.aload_n 0, 1) := by decide +kernel
theorem d_Pr_init_21 : decode prog_4_method_1_code 21 = .ok (.iconst 0, 1) := by decide +kernel
theorem d_Pr_init_22 : decode prog_4_method_1_code 22 = .ok (.putfield 19, 3) := by decide +kernel
theorem d_Pr_init_25 : decode prog_4_method_1_code 25 = .ok (.aload_n 0, 1) := by decide +kernel
theorem d_Pr_init_26 : decode prog_4_method_1_code 26 = .ok (.iconst 0, 1) := by decide +kernel
theorem d_Pr_init_27 : decode prog_4_method_1_code 27 = .ok (.putfield 23, 3) := by decide +kernel
theorem d_Pr_init_30 : decode prog_4_method_1_code 30 = .ok (.aload_n 0, 1) := by decide +kernel
theorem d_Pr_init_31 : decode prog_4_method_1_code 31 = .ok (.iconst 0, 1) := by decide +kernel
theorem d_Pr_init_32 : decode prog_4_method_1_code 32 = .ok (.putfield 26, 3) := by decide +kernel
theorem d_Pr_init_35 : decode prog_4_method_1_code 35 = .ok (.aload_n 0, 1) := by decide +kernel
theorem d_Pr_init_36 : decode prog_4_method_1_code 36 = .ok (.iconst 0, 1) := by decide +kernel
theorem d_Pr_init_37 : decode prog_4_method_1_code 37 = .ok (.putfield 29, 3) := by decide +kernel
theorem d_Pr_init_40 : decode prog_4_method_1_code 40 = .ok (.aload_n 0, 1) := by decide +kernel
theorem d_Pr_init_41 : decode prog_4_method_1_code 41 = .ok (.lconst 0, 1) := by decide +kernel
theorem d_Pr_init_42 : decode prog_4_method_1_code 42 = .ok (.putfield 32, 3) := by decide +kernel
theorem d_Pr_init_45 : decode prog_4_method_1_code 45 = .ok (.aload_n 0, 1) := by decide +kernel
theorem d_Pr_init_46 : decode prog_4_method_1_code 46 = .ok (.ldc2_w 36, 3) := by decide +kernel
theorem d_Pr_init_49 : decode prog_4_method_1_code 49 = .ok (.putfield 38, 3) := by decide +kernel
theorem d_Pr_init_52 : decode prog_4_method_1_code 52 = .ok (.aload_n 0, 1) := by decide +kernel
theorem d_Pr_init_53 : decode prog_4_method_1_code 53 = .ok (.lconst 0, 1) := by decide +kernel
theorem d_Pr_init_54 : decode prog_4_method_1_code 54 = .ok (.putfield 41, 3) := by decide +kernel
theorem d_Pr_init_57 : decode prog_4_method_1_code 57 = .ok (.aload_n 0, 1) := by decide +kernel
theorem d_Pr_init_58 : decode prog_4_method_1_code 58 = .ok (.iconst 1, 1) := by decide +kernel
theorem d_Pr_init_59 : decode prog_4_method_1_code 59 = .ok (.iload_n 1, 1) := by decide +kernel
theorem d_Pr_init_60 : decode prog_4_method_1_code 60 = .ok (.invokestatic 44, 3) := by decide +kernel
theorem d_Pr_init_63 : decode prog_4_method_1_code 63 = .ok (.putfield 50, 3) := by decide +kernel
theorem d_Pr_init_66 : decode prog_4_method_1_code 66 = .ok (.return_, 1) := by decide +kernel
theorem d_Pr_tell_0 : decode prog_4_method_2_code 0 = .ok (.aload_n 0, 1) := by decide +kernel
theorem d_Pr_tell_1 : decode prog_4_method_2_code 1 = .ok (.iload_n 1, 1) := by decide +kernel
theorem d_Pr_tell_2 : decode prog_4_method_2_code 2 = .ok (.aload_n 0, 1) := by decide +kernel
theorem d_Pr_tell_3 : decode prog_4_method_2_code 3 = .ok (.getfield 50, 3) := by decide +kernel
theorem d_Pr_tell_6 : decode prog_4_method_2_code 6 = .ok (.iadd, 1) := by decide +kernel
theorem d_Pr_tell_7 : decode prog_4_method_2_code 7 = .ok (.iconst 1, 1) := by decide +kernel
theorem d_Pr_tell_8 : decode prog_4_method_2_code 8 = .ok (.isub, 1) := by decide +kernel
theorem d_Pr_tell_9 : decode prog_4_method_2_code 9 = .ok (.aload_n 0, 1) := by decide +kernel
theorem d_Pr_tell_10 : decode prog_4_method_2_code 10 = .ok (.getfield 50, 3) := by decide +kernel
theorem d_Pr_tell_13 : decode prog_4_method_2_code 13 = .ok (.idiv, 1) := by decide +kernel
theorem d_Pr_tell_14 : decode prog_4_method_2_code 14 = .ok (.putfield 19, 3) := by decide +kernel
theorem d_Pr_tell_17 : decode prog_4_method_2_code 17 = .ok (.aload_n 0, 1) := by decide +kernel
theorem d_Pr_tell_18 : decode prog_4_method_2_code 18 = .ok (.iload_n 2, 1) := by decide +kernel
theorem d_Pr_tell_19 : decode prog_4_method_2_code 19 = .ok (.aload_n 0, 1) := by decide +kernel
theorem d_Pr_tell_20 : decode prog_4_method_2_code 20 = .ok (.getfield 50, 3) := by decide +kernel
theorem d_Pr_tell_23 : decode prog_4_method_2_code 23 = .ok (.idiv, 1) := by decide +kernel
theorem d_Pr_tell_24 : decode prog_4_method_2_code 24 = .ok (.putfield 23, 3) := by decide +kernel
theorem d_Pr_tell_27 : decode prog_4_method_2_code 27 = .ok (.aload_n 0, 1) := by decide +kernel
theorem d_Pr_tell_28 : decode prog_4_method_2_code 28 = .ok (.iload_n 3, 1) := by decide +kernel
theorem d_Pr_tell_29 : decode prog_4_method_2_code 29 = .ok (.putfield 26, 3) := by decide +kernel
theorem d_Pr_tell_32 : decode prog_4_method_2_code 32 = .ok (.aload_n 0, 1) := by decide +kernel
theorem d_Pr_tell_33 : decode prog_4_method_2_code 33 = .ok (.iload 4, 2) := by decide +kernel
theorem d_Pr_tell_35 : decode prog_4_method_2_code 35 = .ok (.putfield 29, 3) := by decide +kernel
theorem d_Pr_tell_38 : decode prog_4_method_2_code 38 = .ok (.aload_n 0, 1) := by decide +kernel
theorem d_Pr_tell_39 : decode prog_4_method_2_code 39 = .ok (.lload 5, 2) := by decide +kernel
theorem d_Pr_tell_41 : decode prog_4_method_2_code 41 = .ok (.putfield 32, 3) := by decide +kernel
theorem d_Pr_tell_44 : decode prog_4_method_2_code 44 = .ok (.return_, 1) := by decide +kernel
theorem d_Pr_hasLimit_0 : decode prog_4_method_3_code 0 = .ok (.aload_n 0, 1) := by decide +kernel
theorem d_Pr_hasLimit_1 : decode prog_4_method_3_code 1 = .ok (.getfield 38, 3) := by decide +kernel
theorem d_Pr_hasLimit_4 : decode prog_4_method_3_code 4 = .ok (.ldc2_w 36, 3) := by decide +kernel
theorem d_Pr_hasLimit_7 : decode prog_4_method_3_code 7 = .ok (.lcmp, 1) := by decide +kernel
theorem d_Pr_hasLimit_8 : decode prog_4_method_3_code 8 = .ok (.ifCond .eq 7, 3) := by decide +kernel
theorem d_Pr_hasLimit_11 : decode prog_4_method_3_code 11 = .ok (.iconst 1, 1) := by decide +kernel
theorem d_Pr_hasLimit_12 : decode prog_4_method_3_code 12 = .ok (.goto 4, 3) := by decide +kernel
theorem d_Pr_hasLimit_15 : decode prog_4_method_3_code 15 = .ok (.iconst 0, 1) := by decide +kernel
theorem d_Pr_hasLimit_16 : decode prog_4_method_3_code 16 = .ok (.ireturn, 1) := by decide +kernel
theorem d_Pr_isBeyond_0 : decode prog_4_method_4_code 0 = .ok (.aload_n 0, 1) := by decide +kernel
theorem d_Pr_isBeyond_1 : decode prog_4_method_4_code 1 = .ok (.invokevirtual 53, 3) := by decide +kernel
theorem d_Pr_isBeyond_4 : decode prog_4_method_4_code 4 = .ok (.ifCond .eq 17, 3) := by decide +kernel
theorem d_Pr_isBeyond_7 : decode prog_4_method_4_code 7 = .ok (.iload_n 1, 1) := by decide +kernel
theorem d_Pr_isBeyond_8 : decode prog_4_method_4_code 8 = .ok (.i2l, 1) := by decide +kernel
theorem d_Pr_isBeyond_9 : decode prog_4_method_4_code 9 = .ok (.aload_n 0, 1) := by decide +kernel
theorem d_Pr_isBeyond_10 : decode prog_4_method_4_code 10 = .ok (.getfield 38, 3) := by decide +kernel
theorem d_Pr_isBeyond_13 : decode prog_4_method_4_code 13 = .ok (.lcmp, 1) := by decide +kernel
theorem d_Pr_isBeyond_14 : decode prog_4_method_4_code 14 = .ok (.ifCond .le 7, 3) := by decide +kernel
theorem d_Pr_isBeyond_17 : decode prog_4_method_4_code 17 = .ok (.iconst 1, 1) := by decide +kernel
theorem d_Pr_isBeyond_18 : decode prog_4_method_4_code 18 = .ok (.goto 4, 3) := by decide +kernel
theorem d_Pr_isBeyond_21 : decode prog_4_method_4_code 21 = .ok (.iconst 0, 1) := by decide +kernel
theorem d_Pr_isBeyond_22 : decode prog_4_method_4_code 22 = .ok (.ireturn, 1) := by decide +kernel
theorem d_Pr_trueWorth_0 : decode prog_4_method_5_code 0 = .ok (.aload_n 0, 1) := by decide +kernel
theorem d_Pr_trueWorth_1 : decode prog_4_method_5_code 1 = .ok (.getfield 32, 3) := by decide +kernel
theorem d_Pr_trueWorth_4 : decode prog_4_method_5_code 4 = .ok (.iload_n 1, 1) := by decide +kernel
theorem d_Pr_trueWorth_5 : decode prog_4_method_5_code 5 = .ok (.i2l, 1) := by decide +kernel
theorem d_Pr_trueWorth_6 : decode prog_4_method_5_code 6 = .ok (.lmul, 1) := by decide +kernel
theorem d_Pr_trueWorth_7 : decode prog_4_method_5_code 7 = .ok (.aload_n 0, 1) := by decide +kernel
theorem d_Pr_trueWorth_8 : decode prog_4_method_5_code 8 = .ok (.getfield 15, 3) := by decide +kernel
theorem d_Pr_trueWorth_11 : decode prog_4_method_5_code 11 = .ok (.iload_n 2, 1) := by decide +kernel
theorem d_Pr_trueWorth_12 : decode prog_4_method_5_code 12 = .ok (.laload, 1) := by decide +kernel
theorem d_Pr_trueWorth_13 : decode prog_4_method_5_code 13 = .ok (.ladd, 1) := by decide +kernel
theorem d_Pr_trueWorth_14 : decode prog_4_method_5_code 14 = .ok (.lreturn, 1) := by decide +kernel
