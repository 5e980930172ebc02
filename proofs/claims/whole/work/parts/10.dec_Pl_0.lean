theorem d_Pl_init_0 : decode prog_3_method_1_code 0 = .ok (.aload_n 0, 1) := by decide +kernel
theorem d_Pl_init_1 : decode prog_3_method_1_code 1 = .ok (.invokespecial 3, 3) := by decide +kernel
theorem d_Pl_init_4 : decode prog_3_method_1_code 4 = .ok (.aload_n 0, 1) := by decide +kernel
theorem d_Pl_init_5 : decode prog_3_method_1_code 5 = .ok (.sipush 2400, 3) := by decide +kernel
theorem d_Pl_init_8 : decode prog_3_method_1_code 8 = .ok (.newarray .int, 2) := by decide +kernel
theorem d_Pl_init_10 : decode prog_3_method_1_code 10 = .ok (.putfield 9, 3) := by decide +kernel
theorem d_Pl_init_13 : decode prog_3_method_1_code 13 = .ok (.aload_n 0, 1) := by decide +kernel
theorem d_Pl_init_14 : decode prog_3_method_1_code 14 = .ok (.sipush 480, 3) := by decide +kernel
theorem d_Pl_init_17 : decode prog_3_method_1_code 17 = .ok (.newarray .boolean, 2) := by decide +kernel
theorem d_Pl_init_19 : decode prog_3_method_1_code 19 = .ok (.putfield 15, 3) := by decide +kernel
theorem d_Pl_init_22 : decode prog_3_method_1_code 22 = .ok (.aload_n 0, 1) := by decide +kernel
theorem d_Pl_init_23 : decode prog_3_method_1_code 23 = .ok (.bipush 8, 2) := by decide +kernel
theorem d_Pl_init_25 : decode prog_3_method_1_code 25 = .ok (.newarray .int, 2) := by decide +kernel
theorem d_Pl_init_27 : decode prog_3_method_1_code 27 = .ok (.putfield 19, 3) := by decide +kernel
theorem d_Pl_init_30 : decode prog_3_method_1_code 30 = .ok (.aload_n 0, 1) := by decide +kernel
theorem d_Pl_init_31 : decode prog_3_method_1_code 31 = .ok (.iconst 0, 1) := by decide +kernel
theorem d_Pl_init_32 : decode prog_3_method_1_code 32 = .ok (.putfield 22, 3) := by decide +kernel
theorem d_Pl_init_35 : decode prog_3_method_1_code 35 = .ok (.aload_n 0, 1) := by decide +kernel
theorem d_Pl_init_36 : decode prog_3_method_1_code 36 = .ok (.lconst 0, 1) := by decide +kernel
theorem d_Pl_init_37 : decode prog_3_method_1_code 37 = .ok (.putfield 26, 3) := by decide +kernel
theorem d_Pl_init_40 : decode prog_3_method_1_code 40 = .ok (.return_, 1) := by decide +kernel
theorem d_Pl_clear_0 : decode prog_3_method_2_code 0 = .ok (.iconst 0, 1) := by decide +kernel
theorem d_Pl_clear_1 : decode prog_3_method_2_code 1 = .ok (.istore_n 1, 1) := by decide +kernel
theorem d_Pl_clear_2 : decode prog_3_method_2_code 2 = .ok (.iload_n 1, 1) := by decide +kernel
theorem d_Pl_clear_3 : decode prog_3_method_2_code 3 = .ok (.aload_n 0, 1) := by decide +kernel
theorem d_Pl_clear_4 : decode prog_3_method_2_code 4 = .ok (.getfield 15, 3) := by decide +kernel
theorem d_Pl_clear_7 : decode prog_3_method_2_code 7 = .ok (.arraylength, 1) := by decide +kernel
theorem d_Pl_clear_8 : decode prog_3_method_2_code 8 = .ok (.if_icmp .ge 16, 3) := by decide +kernel
theorem d_Pl_clear_11 : decode prog_3_method_2_code 11 = .ok (.aload_n 0, 1) := by decide +kernel
theorem d_Pl_clear_12 : decode prog_3_method_2_code 12 = .ok (.getfield 15, 3) := by decide +kernel
theorem d_Pl_clear_15 : decode prog_3_method_2_code 15 = .ok (.iload_n 1, 1) := by decide +kernel
theorem d_Pl_clear_16 : decode prog_3_method_2_code 16 = .ok (.iconst 0, 1) := by decide +kernel
theorem d_Pl_clear_17 : decode prog_3_method_2_code 17 = .ok (.bastore, 1) := by decide +kernel
theorem d_Pl_clear_18 : decode prog_3_method_2_code 18 = .ok (.iinc 1 1, 3) := by decide +kernel
theorem d_Pl_clear_21 : decode prog_3_method_2_code 21 = .ok (.goto (-19), 3) := by decide +kernel
theorem d_Pl_clear_24 : decode prog_3_method_2_code 24 = .ok (.iconst 0, 1) := by decide +kernel
theorem d_Pl_clear_25 : decode prog_3_method_2_code 25 = .ok (.istore_n 1, 1) := by decide +kernel
theorem d_Pl_clear_26 : decode prog_3_method_2_code 26 = .ok (.iload_n 1, 1) := by decide +kernel
theorem d_Pl_clear_27 : decode prog_3_method_2_code 27 = .ok (.bipush 8, 2) := by decide +kernel
theorem d_Pl_clear_29 : decode prog_3_method_2_code 29 = .ok (.if_icmp .ge 16, 3) := by decide +kernel
theorem d_Pl_clear_32 : decode prog_3_method_2_code 32 = .ok (.aload_n 0, 1) := by decide +kernel
theorem d_Pl_clear_33 : decode prog_3_method_2_code 33 = .ok (.getfield 19, 3) := by decide +kernel
theorem d_Pl_clear_36 : decode prog_3_method_2_code 36 = .ok (.iload_n 1, 1) := by decide +kernel
theorem d_Pl_clear_37 : decode prog_3_method_2_code 37 = .ok (.iconst 0, 1) := by decide +kernel
theorem d_Pl_clear_38 : decode prog_3_method_2_code 38 = .ok (.iastore, 1) := by decide +kernel
theorem d_Pl_clear_39 : decode prog_3_method_2_code 39 = .ok (.iinc 1 1, 3) := by decide +kernel
theorem d_Pl_clear_42 : decode prog_3_method_2_code 42 = .ok (.goto (-16), 3) := by decide +kernel
theorem d_Pl_clear_45 : decode prog_3_method_2_code 45 = .ok (.aload_n 0, 1) := by decide +kernel
theorem d_Pl_clear_46 : decode prog_3_method_2_code 46 = .ok (.iconst 0, 1) := by decide +kernel
theorem d_Pl_clear_47 : decode prog_3_method_2_code 47 = .ok (.putfield 22, 3) := by decide +kernel
theorem d_Pl_clear_50 : decode prog_3_method_2_code 50 = .ok (.aload_n 0, 1) := by decide +kernel
theorem d_Pl_clear_51 : decode prog_3_method_2_code 51 = .ok (.lconst 0, 1) := by decide +kernel
theorem d_Pl_clear_52 : decode prog_3_method_2_code 52 = .ok (.putfield 26, 3) := by decide +kernel
theorem d_Pl_clear_55 : decode prog_3_method_2_code 55 = .ok (.return_, 1) := by decide +kernel
theorem d_Pl_addLog_0 : decode prog_3_method_3_code 0 = .ok (.aload_n 0, 1) := by decide +kernel
theorem d_Pl_addLog_1 : decode prog_3_method_3_code 1 = .ok (.getfield 22, 3) := by decide +kernel
theorem d_Pl_addLog_4 : decode prog_3_method_3_code 4 = .ok (.iconst 5, 1) := by decide +kernel
theorem d_Pl_addLog_5 : decode prog_3_method_3_code 5 = .ok (.imul, 1) := by decide +kernel
theorem d_Pl_addLog_6 : decode prog_3_method_3_code 6 = .ok (.istore 7, 2) := by decide +kernel
theorem d_Pl_addLog_8 : decode prog_3_method_3_code 8 = .ok (.aload_n 0, 1) := by decide +kernel
theorem d_Pl_addLog_9 : decode prog_3_method_3_code 9 = .ok (.getfield 9, 3) := by decide +kernel
theorem d_Pl_addLog_12 : decode prog_3_method_3_code 12 = .ok (.iload 7, 2) := by decide +kernel
theorem d_Pl_addLog_14 : decode prog_3_method_3_code 14 = .ok (.iconst 0, 1) := by decide +kernel
theorem d_Pl_addLog_15 : decode prog_3_method_3_code 15 = .ok (.iadd, 1) := by decide +kernel
theorem d_Pl_addLog_16 : decode prog_3_method_3_code 16 = .ok (.iload_n 1, 1) := by decide +kernel
theorem d_Pl_addLog_17 : decode prog_3_method_3_code 17 = .ok (.iastore, 1) := by decide +kernel
theorem d_Pl_addLog_18 : decode prog_3_method_3_code 18 = .ok (.aload_n 0, 1) := by decide +kernel
theorem d_Pl_addLog_19 : decode prog_3_method_3_code 19 = .ok (.getfield 9, 3) := by decide +kernel
theorem d_Pl_addLog_22 : decode prog_3_method_3_code 22 = .ok (.iload 7, 2) := by decide +kernel
theorem d_Pl_addLog_24 : decode prog_3_method_3_code 24 = .ok (.iconst 1, 1) := by decide +kernel
theorem d_Pl_addLog_25 : decode prog_3_method_3_code 25 = .ok (.iadd, 1) := by decide +kernel
theorem d_Pl_addLog_26 : decode prog_3_method_3_code 26 = .ok (.iload_n 2, 1) := by decide +kernel
theorem d_Pl_addLog_27 : decode prog_3_method_3_code 27 = .ok (.iastore, 1) := by decide +kernel
theorem d_Pl_addLog_28 : decode prog_3_method_3_code 28 = .ok (.aload_n 0, 1) := by decide +kernel
theorem d_Pl_addLog_29 : decode prog_3_method_3_code 29 = .ok (.getfield 9, 3) := by decide +kernel
theorem d_Pl_addLog_32 : decode prog_3_method_3_code 32 = .ok (.iload 7, 2) := by decide +kernel
theorem d_Pl_addLog_34 : decode prog_3_method_3_code 34 = .ok (.iconst 2, 1) := by decide +kernel
theorem d_Pl_addLog_35 : decode prog_3_method_3_code 35 = .ok (.iadd, 1) := by decide +kernel
theorem d_Pl_addLog_36 : decode prog_3_method_3_code 36 = .ok (.iload_n 3, 1) := by decide +kernel
theorem d_Pl_addLog_37 : decode prog_3_method_3_code 37 = .ok (.iastore, 1) := by decide +kernel
theorem d_Pl_addLog_38 : decode prog_3_method_3_code 38 = .ok (.aload_n 0, 1) := by decide +kernel
theorem d_Pl_addLog_39 : decode prog_3_method_3_code 39 = .ok (.getfield 9, 3) := by decide +kernel
theorem d_Pl_addLog_42 : decode prog_3_method_3_code 42 = .ok (.iload 7, 2) := by decide +kernel
theorem d_Pl_addLog_44 : decode prog_3_method_3_code 44 = .ok (.iconst 3, 1) := by decide +kernel
theorem d_Pl_addLog_45 : decode prog_3_method_3_code 45 = .ok (.iadd, 1) := by decide +kernel
theorem d_Pl_addLog_46 : decode prog_3_method_3_code 46 = .ok (.iload 4, 2) := by decide +kernel
theorem d_Pl_addLog_48 : decode prog_3_method_3_code 48 = .ok (.iastore, 1) := by decide +kernel
theorem d_Pl_addLog_49 : decode prog_3_method_3_code 49 = .ok (.aload_n 0, 1) := by decide +kernel
theorem d_Pl_addLog_50 : decode prog_3_method_3_code 50 = .ok (.getfield 9, 3) := by decide +kernel
theorem d_Pl_addLog_53 : decode prog_3_method_3_code 53 = .ok (.iload 7, 2) := by decide +kernel
theorem d_Pl_addLog_55 : decode prog_3_method_3_code 55 = .ok (.iconst 4, 1) := by decide +kernel
theorem d_Pl_addLog_56 : decode prog_3_method_3_code 56 = .ok (.iadd, 1) := by decide +kernel
theorem d_Pl_addLog_57 : decode prog_3_method_3_code 57 = .ok (.lload 5, 2) := by decide +kernel
theorem d_Pl_addLog_59 : decode prog_3_method_3_code 59 = .ok (.l2i, 1) := by decide +kernel
theorem d_Pl_addLog_60 : decode prog_3_method_3_code 60 = .ok (.iastore, 1) := by decide +kernel
theorem d_Pl_addLog_61 : decode prog_3_method_3_code 61 = .ok (.aload_n 0, 1) := by decide +kernel
theorem d_Pl_addLog_62 : decode prog_3_method_3_code 62 = .ok (.dup, 1) := by decide +kernel
theorem d_Pl_addLog_63 : decode prog_3_method_3_code 63 = .ok (.getfield 22, 3) := by decide +kernel
theorem d_Pl_addLog_66 : decode prog_3_method_3_code 66 = .ok (.iconst 1, 1) := by decide +kernel
theorem d_Pl_addLog_67 : decode prog_3_method_3_code 67 = .ok (.iadd, 1) := by decide +kernel
theorem d_Pl_addLog_68 : decode prog_3_method_3_code 68 = .ok (.putfield 22, 3) := by decide +kernel
theorem d_Pl_addLog_71 : decode prog_3_method_3_code 71 = .ok (.aload_n 0, 1) := by decide +kernel
theorem d_Pl_addLog_72 : decode prog_3_method_3_code 72 = .ok (.getfield 19, 3) := by decide +kernel
theorem d_Pl_addLog_75 : decode prog_3_method_3_code 75 = .ok (.iload 4, 2) := by decide +kernel
theorem d_Pl_addLog_77 : decode prog_3_method_3_code 77 = .ok (.dup2, 1) := by decide +kernel
theorem d_Pl_addLog_78 : decode prog_3_method_3_code 78 = .ok (.iaload, 1) := by decide +kernel
theorem d_Pl_addLog_79 : decode prog_3_method_3_code 79 = .ok (.iconst 1, 1) := by decide +kernel
theorem d_Pl_addLog_80 : decode prog_3_method_3_code 80 = .ok (.iadd, 1) := by decide +kernel
theorem d_Pl_addLog_81 : decode prog_3_method_3_code 81 = .ok (.iastore, 1) := by decide +kernel
theorem d_Pl_addLog_82 : decode prog_3_method_3_code 82 = .ok (.aload_n 0, 1) := by decide +kernel
theorem d_Pl_addLog_83 : decode prog_3_method_3_code 83 = .ok (.dup, 1) := by decide +kernel
theorem d_Pl_addLog_84 : decode prog_3_method_3_code 84 = .ok (.getfield 26, 3) := by decide +kernel
theorem d_Pl_addLog_87 : decode prog_3_method_3_code 87 = .ok (.lload 5, 2) := by decide +kernel
theorem d_Pl_addLog_89 : decode prog_3_method_3_code 89 = .ok (.ladd, 1) := by decide +kernel
theorem d_Pl_addLog_90 : decode prog_3_method_3_code 90 = .ok (.putfield 26, 3) := by decide +kernel
theorem d_Pl_addLog_93 : decode prog_3_method_3_code 93 = .ok (.return_, 1) := by decide +kernel
theorem d_Pl_burn_0 : decode prog_3_method_4_code 0 = .ok (.iload_n 2, 1) := by decide +kernel
theorem d_Pl_burn_1 : decode prog_3_method_4_code 1 = .ok (.istore 4, 2) := by decide +kernel
theorem d_Pl_burn_3 : decode prog_3_method_4_code 3 = .ok (.iload 4, 2) := by decide +kernel
theorem d_Pl_burn_5 : decode prog_3_method_4_code 5 = .ok (.iload_n 2, 1) := by decide +kernel
theorem d_Pl_burn_6 : decode prog_3_method_4_code 6 = .ok (.iload_n 3, 1) := by decide +kernel
theorem d_Pl_burn_7 : decode prog_3_method_4_code 7 = .ok (.iadd, 1) := by decide +kernel
theorem d_Pl_burn_8 : decode prog_3_method_4_code 8 = .ok (.if_icmp .ge 22, 3) := by decide +kernel
theorem d_Pl_burn_11 : decode prog_3_method_4_code 11 = .ok (.aload_n 0, 1) := by decide +kernel
theorem d_Pl_burn_12 : decode prog_3_method_4_code 12 = .ok (.getfield 15, 3) := by decide +kernel
theorem d_Pl_burn_15 : decode prog_3_method_4_code 15 = .ok (.iload_n 1, 1) := by decide +kernel
theorem d_Pl_burn_16 : decode prog_3_method_4_code 16 = .ok (.bipush 80, 2) := by decide +kernel
theorem d_Pl_burn_18 : decode prog_3_method_4_code 18 = .ok (.imul, 1) := by decide +kernel
theorem d_Pl_burn_19 : decode prog_3_method_4_code 19 = .ok (.iload 4, 2) := by decide +kernel
theorem d_Pl_burn_21 : decode prog_3_method_4_code 21 = .ok (.iadd, 1) := by decide +kernel
theorem d_Pl_burn_22 : decode prog_3_method_4_code 22 = .ok (.iconst 1, 1) := by decide +kernel
theorem d_Pl_burn_23 : decode prog_3_method_4_code 23 = .ok (.bastore, 1) := by decide +kernel
theorem d_Pl_burn_24 : decode prog_3_method_4_code 24 = .ok (.iinc 4 1, 3) := by decide +kernel
theorem d_Pl_burn_27 : decode prog_3_method_4_code 27 = .ok (.goto (-24), 3) := by decide +kernel
theorem d_Pl_burn_30 : decode prog_3_method_4_code 30 = .ok (.return_, 1) := by decide +kernel
theorem d_Pl_burnBeyondLimits_0 : decode prog_3_method_5_code 0 = .ok (.aload_n 0, 1) := by decide +kernel
theorem d_Pl_burnBeyondLimits_1 : decode prog_3_method_5_code 1 = .ok (.getfield 22, 3) := by decide +kernel
theorem d_Pl_burnBeyondLimits_4 : decode prog_3_method_5_code 4 = .ok (.iconst 1, 1) := by decide +kernel
theorem d_Pl_burnBeyondLimits_5 : decode prog_3_method_5_code 5 = .ok (.isub, 1) := by decide +kernel
theorem d_Pl_burnBeyondLimits_6 : decode prog_3_method_5_code 6 = .ok (.istore_n 2, 1) := by decide +kernel
theorem d_Pl_burnBeyondLimits_7 : decode prog_3_method_5_code 7 = .ok (.iload_n 2, 1) := by decide +kernel
theorem d_Pl_burnBeyondLimits_8 : decode prog_3_method_5_code 8 = .ok (.ifCond .lt 90, 3) := by decide +kernel
theorem d_Pl_burnBeyondLimits_11 : decode prog_3_method_5_code 11 = .ok (.aload_n 0, 1) := by decide +kernel
theorem d_Pl_burnBeyondLimits_12 : decode prog_3_method_5_code 12 = .ok (.iload_n 2, 1) := by decide +kernel
theorem d_Pl_burnBeyondLimits_13 : decode prog_3_method_5_code 13 = .ok (.iconst 3, 1) := by decide +kernel
theorem d_Pl_burnBeyondLimits_14 : decode prog_3_method_5_code 14 = .ok (.invokevirtual 30, 3) := by decide +kernel
theorem d_Pl_burnBeyondLimits_17 : decode prog_3_method_5_code 17 = .ok (.istore_n 3, 1) := by decide +kernel
theorem d_Pl_burnBeyondLimits_18 : decode prog_3_method_5_code 18 = .ok (.aload_n 1, 1) := by decide +kernel
theorem d_Pl_burnBeyondLimits_19 : decode prog_3_method_5_code 19 = .ok (.iload_n 3, 1) := by decide +kernel
theorem d_Pl_burnBeyondLimits_20 : decode prog_3_method_5_code 20 = .ok (.aaload, 1) := by decide +kernel
theorem d_Pl_burnBeyondLimits_21 : decode prog_3_method_5_code 21 = .ok (.aload_n 0, 1) := by decide +kernel
theorem d_Pl_burnBeyondLimits_22 : decode prog_3_method_5_code 22 = .ok (.getfield 19, 3) := by decide +kernel
theorem d_Pl_burnBeyondLimits_25 : decode prog_3_method_5_code 25 = .ok (.iload_n 3, 1) := by decide +kernel
theorem d_Pl_burnBeyondLimits_26 : decode prog_3_method_5_code 26 = .ok (.iaload, 1) := by decide +kernel
theorem d_Pl_burnBeyondLimits_27 : decode prog_3_method_5_code 27 = .ok (.invokevirtual 34, 3) := by decide +kernel
theorem d_Pl_burnBeyondLimits_30 : decode prog_3_method_5_code 30 = .ok (.ifCond .eq 62, 3) := by decide +kernel
theorem d_Pl_burnBeyondLimits_33 : decode prog_3_method_5_code 33 = .ok (.aload_n 0, 1) := by decide +kernel
theorem d_Pl_burnBeyondLimits_34 : decode prog_3_method_5_code 34 = .ok (.aload_n 0, 1) := by decide +kernel
theorem d_Pl_burnBeyondLimits_35 : decode prog_3_method_5_code 35 = .ok (.iload_n 2, 1) := by decide +kernel
theorem d_Pl_burnBeyondLimits_36 : decode prog_3_method_5_code 36 = .ok (.iconst 0, 1) := by decide +kernel
theorem d_Pl_burnBeyondLimits_37 : decode prog_3_method_5_code 37 = .ok (.invokevirtual 30, 3) := by decide +kernel
theorem d_Pl_burnBeyondLimits_40 : decode prog_3_method_5_code 40 = .ok (.aload_n 0, 1) := by decide +kernel
theorem d_Pl_burnBeyondLimits_41 : decode prog_3_method_5_code 41 = .ok (.iload_n 2, 1) := by decide +kernel
theorem d_Pl_burnBeyondLimits_42 : decode prog_3_method_5_code 42 = .ok (.iconst 1, 1) := by decide +kernel
theorem d_Pl_burnBeyondLimits_43 : decode prog_3_method_5_code 43 = .ok (.invokevirtual 30, 3) := by decide +kernel
theorem d_Pl_burnBeyondLimits_46 : decode prog_3_method_5_code 46 = .ok (.aload_n 0, 1) := by decide +kernel
theorem d_Pl_burnBeyondLimits_47 : decode prog_3_method_5_code 47 = .ok (.iload_n 2, 1) := by decide +kernel
theorem d_Pl_burnBeyondLimits_48 : decode prog_3_method_5_code 48 = .ok (.iconst 2, 1) := by decide +kernel
theorem d_Pl_burnBeyondLimits_49 : decode prog_3_method_5_code 49 = .ok (.invokevirtual 30, 3) := by decide +kernel
theorem d_Pl_burnBeyondLimits_52 : decode prog_3_method_5_code 52 = .ok (.invokevirtual 40, 3) := by decide +kernel
theorem d_Pl_burnBeyondLimits_55 : decode prog_3_method_5_code 55 = .ok (.aload_n 0, 1) := by decide +kernel
theorem d_Pl_burnBeyondLimits_56 : decode prog_3_method_5_code 56 = .ok (.getfield 19, 3) := by decide +kernel
theorem d_Pl_burnBeyondLimits_59 : decode prog_3_method_5_code 59 = .ok (.iload_n 3, 1) := by decide +kernel
theorem d_Pl_burnBeyondLimits_60 : decode prog_3_method_5_code 60 = .ok (.dup2, 1) := by decide +kernel
theorem d_Pl_burnBeyondLimits_61 : decode prog_3_method_5_code 61 = .ok (.iaload, 1) := by decide +kernel
theorem d_Pl_burnBeyondLimits_62 : decode prog_3_method_5_code 62 = .ok (.iconst 1, 1) := by decide +kernel
theorem d_Pl_burnBeyondLimits_63 : decode prog_3_method_5_code 63 = .ok (.isub, 1) := by decide +kernel
theorem d_Pl_burnBeyondLimits_64 : decode prog_3_method_5_code 64 = .ok (.iastore, 1) := by decide +kernel
theorem d_Pl_burnBeyondLimits_65 : decode prog_3_method_5_code 65 = .ok (.aload_n 0, 1) := by decide +kernel
theorem d_Pl_burnBeyondLimits_66 : decode prog_3_method_5_code 66 = .ok (.dup, 1) := by decide +kernel
theorem d_Pl_burnBeyondLimits_67 : decode prog_3_method_5_code 67 = .ok (.getfield 26, 3) := by decide +kernel
theorem d_Pl_burnBeyondLimits_70 : decode prog_3_method_5_code 70 = .ok (.aload_n 0, 1) := by decide +kernel
theorem d_Pl_burnBeyondLimits_71 : decode prog_3_method_5_code 71 = .ok (.iload_n 2, 1) := by decide +kernel
theorem d_Pl_burnBeyondLimits_72 : decode prog_3_method_5_code 72 = .ok (.iconst 4, 1) := by decide +kernel
theorem d_Pl_burnBeyondLimits_73 : decode prog_3_method_5_code 73 = .ok (.invokevirtual 30, 3) := by decide +kernel
theorem d_Pl_burnBeyondLimits_76 : decode prog_3_method_5_code 76 = .ok (.i2l, 1) := by decide +kernel
theorem d_Pl_burnBeyondLimits_77 : decode prog_3_method_5_code 77 = .ok (.lsub, 1) := by decide +kernel
theorem d_Pl_burnBeyondLimits_78 : decode prog_3_method_5_code 78 = .ok (.putfield 26, 3) := by decide +kernel
theorem d_Pl_burnBeyondLimits_81 : decode prog_3_method_5_code 81 = .ok (.aload_n 0, 1) := by decide +kernel
theorem d_Pl_burnBeyondLimits_82 : decode prog_3_method_5_code 82 = .ok (.getfield 9, 3) := by decide +kernel
theorem d_Pl_burnBeyondLimits_85 : decode prog_3_method_5_code 85 = .ok (.iload_n 2, 1) := by decide +kernel
theorem d_Pl_burnBeyondLimits_86 : decode prog_3_method_5_code 86 = .ok (.iconst 5, 1) := by decide +kernel
theorem d_Pl_burnBeyondLimits_87 : decode prog_3_method_5_code 87 = .ok (.imul, 1) := by decide +kernel
theorem d_Pl_burnBeyondLimits_88 : decode prog_3_method_5_code 88 = .ok (.iconst 3, 1) := by decide +kernel
theorem d_Pl_burnBeyondLimits_89 : decode prog_3_method_5_code 89 = .ok (.iadd, 1) := by decide +kernel
theorem d_Pl_burnBeyondLimits_90 : decode prog_3_method_5_code 90 = .ok (.iconst (-1), 1) := by decide +kernel
theorem d_Pl_burnBeyondLimits_91 : decode prog_3_method_5_code 91 = .ok (.iastore, 1) := by decide +kernel
theorem d_Pl_burnBeyondLimits_92 : decode prog_3_method_5_code 92 = .ok (.iinc 2 (-1), 3) := by decide +kernel
theorem d_Pl_burnBeyondLimits_95 : decode prog_3_method_5_code 95 = .ok (.goto (-88), 3) := by decide +kernel
theorem d_Pl_burnBeyondLimits_98 : decode prog_3_method_5_code 98 = .ok (.aload_n 0, 1) := by decide +kernel
theorem d_Pl_burnBeyondLimits_99 : decode prog_3_method_5_code 99 = .ok (.invokevirtual 44, 3) := by decide +kernel
theorem d_Pl_burnBeyondLimits_102 : decode prog_3_method_5_code 102 = .ok (.return_, 1) := by decide +kernel
theorem d_Pl_closeGaps_0 : decode prog_3_method_6_code 0 = .ok (.iconst 0, 1) := by decide +kernel
theorem d_Pl_closeGaps_1 : decode prog_3_method_6_code 1 = .ok (.istore_n 1, 1) := by decide +kernel
theorem d_Pl_closeGaps_2 : decode prog_3_method_6_code 2 = .ok (.iconst 0, 1) := by decide +kernel
theorem d_Pl_closeGaps_3 : decode prog_3_method_6_code 3 = .ok (.istore_n 2, 1) := by decide +kernel
theorem d_Pl_closeGaps_4 : decode prog_3_method_6_code 4 = .ok (.iload_n 2, 1) := by decide +kernel
theorem d_Pl_closeGaps_5 : decode prog_3_method_6_code 5 = .ok (.aload_n 0, 1) := by decide +kernel
theorem d_Pl_closeGaps_6 : decode prog_3_method_6_code 6 = .ok (.getfield 22, 3) := by decide +kernel
theorem d_Pl_closeGaps_9 : decode prog_3_method_6_code 9 = .ok (.if_icmp .ge 40, 3) := by decide +kernel
theorem d_Pl_closeGaps_12 : decode prog_3_method_6_code 12 = .ok (.aload_n 0, 1) := by decide +kernel
theorem d_Pl_closeGaps_13 : decode prog_3_method_6_code 13 = .ok (.iload_n 2, 1) := by decide +kernel
theorem d_Pl_closeGaps_14 : decode prog_3_method_6_code 14 = .ok (.iconst 3, 1) := by decide +kernel
theorem d_Pl_closeGaps_15 : decode prog_3_method_6_code 15 = .ok (.invokevirtual 30, 3) := by decide +kernel
theorem d_Pl_closeGaps_18 : decode prog_3_method_6_code 18 = .ok (.iconst (-1), 1) := by decide +kernel
theorem d_Pl_closeGaps_19 : decode prog_3_method_6_code 19 = .ok (.if_icmp .eq 24, 3) := by decide +kernel
theorem d_Pl_closeGaps_22 : decode prog_3_method_6_code 22 = .ok (.aload_n 0, 1) := by decide +kernel
theorem d_Pl_closeGaps_23 : decode prog_3_method_6_code 23 = .ok (.getfield 9, 3) := by decide +kernel
theorem d_Pl_closeGaps_26 : decode prog_3_method_6_code 26 = .ok (.iload_n 2, 1) := by decide +kernel
theorem d_Pl_closeGaps_27 : decode prog_3_method_6_code 27 = .ok (.iconst 5, 1) := by decide +kernel
theorem d_Pl_closeGaps_28 : decode prog_3_method_6_code 28 = .ok (.imul, 1) := by decide +kernel
theorem d_Pl_closeGaps_29 : decode prog_3_method_6_code 29 = .ok (.aload_n 0, 1) := by decide +kernel
theorem d_Pl_closeGaps_30 : decode prog_3_method_6_code 30 = .ok (.getfield 9, 3) := by decide +kernel
theorem d_Pl_closeGaps_33 : decode prog_3_method_6_code 33 = .ok (.iload_n 1, 1) := by decide +kernel
theorem d_Pl_closeGaps_34 : decode prog_3_method_6_code 34 = .ok (.iconst 5, 1) := by decide +kernel
theorem d_Pl_closeGaps_35 : decode prog_3_method_6_code 35 = .ok (.imul, 1) := by decide +kernel
theorem d_Pl_closeGaps_36 : decode prog_3_method_6_code 36 = .ok (.iconst 5, 1) := by decide +kernel
theorem d_Pl_closeGaps_37 : decode prog_3_method_6_code 37 = .ok (.invokestatic 47, 3) := by decide +kernel
theorem d_Pl_closeGaps_40 : decode prog_3_method_6_code 40 = .ok (.iinc 1 1, 3) := by decide +kernel
theorem d_Pl_closeGaps_43 : decode prog_3_method_6_code 43 = .ok (.iinc 2 1, 3) := by decide +kernel
theorem d_Pl_closeGaps_46 : decode prog_3_method_6_code 46 = .ok (.goto (-42), 3) := by decide +kernel
theorem d_Pl_closeGaps_49 : decode prog_3_method_6_code 49 = .ok (.aload_n 0, 1) := by decide +kernel
theorem d_Pl_closeGaps_50 : decode prog_3_method_6_code 50 = .ok (.iload_n 1, 1) := by decide +kernel
theorem d_Pl_closeGaps_51 : decode prog_3_method_6_code 51 = .ok (.putfield 22, 3) := by decide +kernel
theorem d_Pl_closeGaps_54 : decode prog_3_method_6_code 54 = .ok (.return_, 1) := by decide +kernel
theorem d_Pl_tellLog_0 : decode prog_3_method_7_code 0 = .ok (.aload_n 0, 1) := by decide +kernel
theorem d_Pl_tellLog_1 : decode prog_3_method_7_code 1 = .ok (.getfield 9, 3) := by decide +kernel
theorem d_Pl_tellLog_4 : decode prog_3_method_7_code 4 = .ok (.iload_n 1, 1) := by decide +kernel
theorem d_Pl_tellLog_5 : decode prog_3_method_7_code 5 = .ok (.iconst 5, 1) := by decide +kernel
theorem d_Pl_tellLog_6 : decode prog_3_method_7_code 6 = .ok (.imul, 1) := by decide +kernel
theorem d_Pl_tellLog_7 : decode prog_3_method_7_code 7 = .ok (.iload_n 2, 1) := by decide +kernel
theorem d_Pl_tellLog_8 : decode prog_3_method_7_code 8 = .ok (.iadd, 1) := by decide +kernel
theorem d_Pl_tellLog_9 : decode prog_3_method_7_code 9 = .ok (.iaload, 1) := by decide +kernel
theorem d_Pl_tellLog_10 : decode prog_3_method_7_code 10 = .ok (.ireturn, 1) := by decide +kernel
theorem d_Pl_countFuelRows_0 : decode prog_3_method_8_code 0 = .ok (.iconst 0, 1) := by decide +kernel
theorem d_Pl_countFuelRows_1 : decode prog_3_method_8_code 1 = .ok (.istore_n 1, 1) := by decide +kernel
theorem d_Pl_countFuelRows_2 : decode prog_3_method_8_code 2 = .ok (.iconst 0, 1) := by decide +kernel
theorem d_Pl_countFuelRows_3 : decode prog_3_method_8_code 3 = .ok (.istore_n 2, 1) := by decide +kernel
theorem d_Pl_countFuelRows_4 : decode prog_3_method_8_code 4 = .ok (.iload_n 2, 1) := by decide +kernel
theorem d_Pl_countFuelRows_5 : decode prog_3_method_8_code 5 = .ok (.aload_n 0, 1) := by decide +kernel
theorem d_Pl_countFuelRows_6 : decode prog_3_method_8_code 6 = .ok (.getfield 15, 3) := by decide +kernel
theorem d_Pl_countFuelRows_9 : decode prog_3_method_8_code 9 = .ok (.arraylength, 1) := by decide +kernel
theorem d_Pl_countFuelRows_10 : decode prog_3_method_8_code 10 = .ok (.if_icmp .ge 20, 3) := by decide +kernel
theorem d_Pl_countFuelRows_13 : decode prog_3_method_8_code 13 = .ok (.aload_n 0, 1) := by decide +kernel
theorem d_Pl_countFuelRows_14 : decode prog_3_method_8_code 14 = .ok (.iload_n 2, 1) := by decide +kernel
theorem d_Pl_countFuelRows_15 : decode prog_3_method_8_code 15 = .ok (.invokevirtual 53, 3) := by decide +kernel
theorem d_Pl_countFuelRows_18 : decode prog_3_method_8_code 18 = .ok (.ifCond .eq 6, 3) := by decide +kernel
theorem d_Pl_countFuelRows_21 : decode prog_3_method_8_code 21 = .ok (.iinc 1 1, 3) := by decide +kernel
theorem d_Pl_countFuelRows_24 : decode prog_3_method_8_code 24 = .ok (.iinc 2 1, 3) := by decide +kernel
theorem d_Pl_countFuelRows_27 : decode prog_3_method_8_code 27 = .ok (.goto (-23), 3) := by decide +kernel
theorem d_Pl_countFuelRows_30 : decode prog_3_method_8_code 30 = .ok (.iload_n 1, 1) := by decide +kernel
theorem d_Pl_countFuelRows_31 : decode prog_3_method_8_code 31 = .ok (.ireturn, 1) := by decide +kernel
theorem d_Pl_tellFuel_0 : decode prog_3_method_9_code 0 = .ok (.aload_n 0, 1) := by decide +kernel
theorem d_Pl_tellFuel_1 : decode prog_3_method_9_code 1 = .ok (.iload_n 1, 1) := by decide +kernel
theorem d_Pl_tellFuel_2 : decode prog_3_method_9_code 2 = .ok (.invokevirtual 56, 3) := by decide +kernel
theorem d_Pl_tellFuel_5 : decode prog_3_method_9_code 5 = .ok (.istore_n 3, 1) := by decide +kernel
theorem d_Pl_tellFuel_6 : decode prog_3_method_9_code 6 = .ok (.iload_n 2, 1) := by decide +kernel
theorem d_Pl_tellFuel_7 : decode prog_3_method_9_code 7 = .ok (.ifCond .ne 8, 3) := by decide +kernel
theorem d_Pl_tellFuel_10 : decode prog_3_method_9_code 10 = .ok (.iload_n 3, 1) := by decide +kernel
theorem d_Pl_tellFuel_11 : decode prog_3_method_9_code 11 = .ok (.bipush 80, 2) := by decide +kernel
theorem d_Pl_tellFuel_13 : decode prog_3_method_9_code 13 = .ok (.idiv, 1) := by decide +kernel
theorem d_Pl_tellFuel_14 : decode prog_3_method_9_code 14 = .ok (.ireturn, 1) := by decide +kernel
theorem d_Pl_tellFuel_15 : decode prog_3_method_9_code 15 = .ok (.iload_n 2, 1) := by decide +kernel
theorem d_Pl_tellFuel_16 : decode prog_3_method_9_code 16 = .ok (.iconst 1, 1) := by decide +kernel
theorem d_Pl_tellFuel_17 : decode prog_3_method_9_code 17 = .ok (.if_icmp .ne 10, 3) := by decide +kernel
theorem d_Pl_tellFuel_20 : decode prog_3_method_9_code 20 = .ok (.iload_n 3, 1) := by decide +kernel
theorem d_Pl_tellFuel_21 : decode prog_3_method_9_code 21 = .ok (.bipush 80, 2) := by decide +kernel
theorem d_Pl_tellFuel_23 : decode prog_3_method_9_code 23 = .ok (.irem, 1) := by decide +kernel
theorem d_Pl_tellFuel_24 : decode prog_3_method_9_code 24 = .ok (.goto 8, 3) := by decide +kernel
theorem d_Pl_tellFuel_27 : decode prog_3_method_9_code 27 = .ok (.aload_n 0, 1) := by decide +kernel
theorem d_Pl_tellFuel_28 : decode prog_3_method_9_code 28 = .ok (.iload_n 3, 1) := by decide +kernel
theorem d_Pl_tellFuel_29 : decode prog_3_method_9_code 29 = .ok (.invokevirtual 60, 3) := by decide +kernel
theorem d_Pl_tellFuel_32 : decode prog_3_method_9_code 32 = .ok (.ireturn, 1) := by decide +kernel
theorem d_Pl_beginsFuelRow_0 : decode prog_3_method_10_code 0 = .ok (.aload_n 0, 1) := by decide +kernel
theorem d_Pl_beginsFuelRow_1 : decode prog_3_method_10_code 1 = .ok (.getfield 15, 3) := by decide +kernel
theorem d_Pl_beginsFuelRow_4 : decode prog_3_method_10_code 4 = .ok (.iload_n 1, 1) := by decide +kernel
theorem d_Pl_beginsFuelRow_5 : decode prog_3_method_10_code 5 = .ok (.baload, 1) := by decide +kernel
theorem d_Pl_beginsFuelRow_6 : decode prog_3_method_10_code 6 = .ok (.ifCond .eq 25, 3) := by decide +kernel
theorem d_Pl_beginsFuelRow_9 : decode prog_3_method_10_code 9 = .ok (.iload_n 1, 1) := by decide +kernel
theorem d_Pl_beginsFuelRow_10 : decode prog_3_method_10_code 10 = .ok (.bipush 80, 2) := by decide +kernel
theorem d_Pl_beginsFuelRow_12 : decode prog_3_method_10_code 12 = .ok (.irem, 1) := by decide +kernel
theorem d_Pl_beginsFuelRow_13 : decode prog_3_method_10_code 13 = .ok (.ifCond .eq 14, 3) := by decide +kernel
theorem d_Pl_beginsFuelRow_16 : decode prog_3_method_10_code 16 = .ok (.aload_n 0, 1) := by decide +kernel
theorem d_Pl_beginsFuelRow_17 : decode prog_3_method_10_code 17 = .ok (.getfield 15, 3) := by decide +kernel
theorem d_Pl_beginsFuelRow_20 : decode prog_3_method_10_code 20 = .ok (.iload_n 1, 1) := by decide +kernel
theorem d_Pl_beginsFuelRow_21 : decode prog_3_method_10_code 21 = .ok (.iconst 1, 1) := by decide +kernel
theorem d_Pl_beginsFuelRow_22 : decode prog_3_method_10_code 22 = .ok (.isub, 1) := by decide +kernel
theorem d_Pl_beginsFuelRow_23 : decode prog_3_method_10_code 23 = .ok (.baload, 1) := by decide +kernel
theorem d_Pl_beginsFuelRow_24 : decode prog_3_method_10_code 24 = .ok (.ifCond .ne 7, 3) := by decide +kernel
theorem d_Pl_beginsFuelRow_27 : decode prog_3_method_10_code 27 = .ok (.iconst 1, 1) := by decide +kernel
theorem d_Pl_beginsFuelRow_28 : decode prog_3_method_10_code 28 = .ok (.goto 4, 3) := by decide +kernel
theorem d_Pl_beginsFuelRow_31 : decode prog_3_method_10_code 31 = .ok (.iconst 0, 1) := by decide +kernel
theorem d_Pl_beginsFuelRow_32 : decode prog_3_method_10_code 32 = .ok (.ireturn, 1) := by decide +kernel
theorem d_Pl_fuelRowBegin_0 : decode prog_3_method_11_code 0 = .ok (.iconst 0, 1) := by decide +kernel
theorem d_Pl_fuelRowBegin_1 : decode prog_3_method_11_code 1 = .ok (.istore_n 2, 1) := by decide +kernel
theorem d_Pl_fuelRowBegin_2 : decode prog_3_method_11_code 2 = .ok (.iconst 0, 1) := by decide +kernel
theorem d_Pl_fuelRowBegin_3 : decode prog_3_method_11_code 3 = .ok (.istore_n 3, 1) := by decide +kernel
theorem d_Pl_fuelRowBegin_4 : decode prog_3_method_11_code 4 = .ok (.iload_n 3, 1) := by decide +kernel
theorem d_Pl_fuelRowBegin_5 : decode prog_3_method_11_code 5 = .ok (.aload_n 0, 1) := by decide +kernel
theorem d_Pl_fuelRowBegin_6 : decode prog_3_method_11_code 6 = .ok (.getfield 15, 3) := by decide +kernel
theorem d_Pl_fuelRowBegin_9 : decode prog_3_method_11_code 9 = .ok (.arraylength, 1) := by decide +kernel
theorem d_Pl_fuelRowBegin_10 : decode prog_3_method_11_code 10 = .ok (.if_icmp .ge 27, 3) := by decide +kernel
theorem d_Pl_fuelRowBegin_13 : decode prog_3_method_11_code 13 = .ok (.aload_n 0, 1) := by decide +kernel
theorem d_Pl_fuelRowBegin_14 : decode prog_3_method_11_code 14 = .ok (.iload_n 3, 1) := by decide +kernel
theorem d_Pl_fuelRowBegin_15 : decode prog_3_method_11_code 15 = .ok (.invokevirtual 53, 3) := by decide +kernel
theorem d_Pl_fuelRowBegin_18 : decode prog_3_method_11_code 18 = .ok (.ifCond .eq 13, 3) := by decide +kernel
theorem d_Pl_fuelRowBegin_21 : decode prog_3_method_11_code 21 = .ok (.iload_n 2, 1) := by decide +kernel
theorem d_Pl_fuelRowBegin_22 : decode prog_3_method_11_code 22 = .ok (.iload_n 1, 1) := by decide +kernel
theorem d_Pl_fuelRowBegin_23 : decode prog_3_method_11_code 23 = .ok (.if_icmp .ne 5, 3) := by decide +kernel
theorem d_Pl_fuelRowBegin_26 : decode prog_3_method_11_code 26 = .ok (.iload_n 3, 1) := by decide +kernel
theorem d_Pl_fuelRowBegin_27 : decode prog_3_method_11_code 27 = .ok (.ireturn, 1) := by decide +kernel
theorem d_Pl_fuelRowBegin_28 : decode prog_3_method_11_code 28 = .ok (.iinc 2 1, 3) := by decide +kernel
theorem d_Pl_fuelRowBegin_31 : decode prog_3_method_11_code 31 = .ok (.iinc 3 1, 3) := by decide +kernel
theorem d_Pl_fuelRowBegin_34 : decode prog_3_method_11_code 34 = .ok (.goto (-30), 3) := by decide +kernel
theorem d_Pl_fuelRowBegin_37 : decode prog_3_method_11_code 37 = .ok (.iconst 0, 1) := by decide +kernel
theorem d_Pl_fuelRowBegin_38 : decode prog_3_method_11_code 38 = .ok (.ireturn, 1) := by decide +kernel
theorem d_Pl_fuelRowSteps_0 : decode prog_3_method_12_code 0 = .ok (.iload_n 1, 1) := by decide +kernel
theorem d_Pl_fuelRowSteps_1 : decode prog_3_method_12_code 1 = .ok (.iconst 1, 1) := by decide +kernel
theorem d_Pl_fuelRowSteps_2 : decode prog_3_method_12_code 2 = .ok (.iadd, 1) := by decide +kernel
theorem d_Pl_fuelRowSteps_3 : decode prog_3_method_12_code 3 = .ok (.istore_n 2, 1) := by decide +kernel
theorem d_Pl_fuelRowSteps_4 : decode prog_3_method_12_code 4 = .ok (.iload_n 2, 1) := by decide +kernel
theorem d_Pl_fuelRowSteps_5 : decode prog_3_method_12_code 5 = .ok (.aload_n 0, 1) := by decide +kernel
theorem d_Pl_fuelRowSteps_6 : decode prog_3_method_12_code 6 = .ok (.getfield 15, 3) := by decide +kernel
theorem d_Pl_fuelRowSteps_9 : decode prog_3_method_12_code 9 = .ok (.arraylength, 1) := by decide +kernel
theorem d_Pl_fuelRowSteps_10 : decode prog_3_method_12_code 10 = .ok (.if_icmp .ge 25, 3) := by decide +kernel
theorem d_Pl_fuelRowSteps_13 : decode prog_3_method_12_code 13 = .ok (.iload_n 2, 1) := by decide +kernel
theorem d_Pl_fuelRowSteps_14 : decode prog_3_method_12_code 14 = .ok (.bipush 80, 2) := by decide +kernel
theorem d_Pl_fuelRowSteps_16 : decode prog_3_method_12_code 16 = .ok (.irem, 1) := by decide +kernel
theorem d_Pl_fuelRowSteps_17 : decode prog_3_method_12_code 17 = .ok (.ifCond .eq 18, 3) := by decide +kernel
theorem d_Pl_fuelRowSteps_20 : decode prog_3_method_12_code 20 = .ok (.aload_n 0, 1) := by decide +kernel
theorem d_Pl_fuelRowSteps_21 : decode prog_3_method_12_code 21 = .ok (.getfield 15, 3) := by decide +kernel
theorem d_Pl_fuelRowSteps_24 : decode prog_3_method_12_code 24 = .ok (.iload_n 2, 1) := by decide +kernel
theorem d_Pl_fuelRowSteps_25 : decode prog_3_method_12_code 25 = .ok (.baload, 1) := by decide +kernel
theorem d_Pl_fuelRowSteps_26 : decode prog_3_method_12_code 26 = .ok (.ifCond .eq 9, 3) := by decide +kernel
theorem d_Pl_fuelRowSteps_29 : decode prog_3_method_12_code 29 = .ok (.iinc 2 1, 3) := by decide +kernel
theorem d_Pl_fuelRowSteps_32 : decode prog_3_method_12_code 32 = .ok (.goto (-28), 3) := by decide +kernel
theorem d_Pl_fuelRowSteps_35 : decode prog_3_method_12_code 35 = .ok (.iload_n 2, 1) := by decide +kernel
theorem d_Pl_fuelRowSteps_36 : decode prog_3_method_12_code 36 = .ok (.iload_n 1, 1) := by decide +kernel
theorem d_Pl_fuelRowSteps_37 : decode prog_3_method_12_code 37 = .ok (.isub, 1) := by decide +kernel
theorem d_Pl_fuelRowSteps_38 : decode prog_3_method_12_code 38 = .ok (.ireturn, 1) := by decide +kernel
