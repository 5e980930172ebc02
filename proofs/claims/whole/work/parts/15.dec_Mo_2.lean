theorem d_Mo_trueWorth_52 : decode prog_8_method_27_code 52 = .ok (.iload 5, 2) := by decide +kernel
theorem d_Mo_trueWorth_54 : decode prog_8_method_27_code 54 = .ok (.iaload, 1) := by decide +kernel
theorem d_Mo_trueWorth_55 : decode prog_8_method_27_code 55 = .ok (.aload_n 0, 1) := by decide +kernel
theorem d_Mo_trueWorth_56 : decode prog_8_method_27_code 56 = .ok (.getfield 79, 3) := by decide +kernel
theorem d_Mo_trueWorth_59 : decode prog_8_method_27_code 59 = .ok (.iload 5, 2) := by decide +kernel
theorem d_Mo_trueWorth_61 : decode prog_8_method_27_code 61 = .ok (.iaload, 1) := by decide +kernel
theorem d_Mo_trueWorth_62 : decode prog_8_method_27_code 62 = .ok (.invokevirtual 158, 3) := by decide +kernel
theorem d_Mo_trueWorth_65 : decode prog_8_method_27_code 65 = .ok (.ladd, 1) := by decide +kernel
theorem d_Mo_trueWorth_66 : decode prog_8_method_27_code 66 = .ok (.goto 4, 3) := by decide +kernel
theorem d_Mo_trueWorth_69 : decode prog_8_method_27_code 69 = .ok (.lload_n 1, 1) := by decide +kernel
theorem d_Mo_trueWorth_70 : decode prog_8_method_27_code 70 = .ok (.lstore_n 1, 1) := by decide +kernel
theorem d_Mo_trueWorth_71 : decode prog_8_method_27_code 71 = .ok (.iinc 4 1, 3) := by decide +kernel
theorem d_Mo_trueWorth_74 : decode prog_8_method_27_code 74 = .ok (.goto (-59), 3) := by decide +kernel
theorem d_Mo_trueWorth_77 : decode prog_8_method_27_code 77 = .ok (.iinc 3 1, 3) := by decide +kernel
theorem d_Mo_trueWorth_80 : decode prog_8_method_27_code 80 = .ok (.goto (-76), 3) := by decide +kernel
theorem d_Mo_trueWorth_83 : decode prog_8_method_27_code 83 = .ok (.lload_n 1, 1) := by decide +kernel
theorem d_Mo_trueWorth_84 : decode prog_8_method_27_code 84 = .ok (.lreturn, 1) := by decide +kernel
theorem d_Mo_logCount_0 : decode prog_8_method_28_code 0 = .ok (.iconst 0, 1) := by decide +kernel
theorem d_Mo_logCount_1 : decode prog_8_method_28_code 1 = .ok (.istore_n 1, 1) := by decide +kernel
theorem d_Mo_logCount_2 : decode prog_8_method_28_code 2 = .ok (.iconst 0, 1) := by decide +kernel
theorem d_Mo_logCount_3 : decode prog_8_method_28_code 3 = .ok (.istore_n 2, 1) := by decide +kernel
theorem d_Mo_logCount_4 : decode prog_8_method_28_code 4 = .ok (.iload_n 2, 1) := by decide +kernel
theorem d_Mo_logCount_5 : decode prog_8_method_28_code 5 = .ok (.aload_n 0, 1) := by decide +kernel
theorem d_Mo_logCount_6 : decode prog_8_method_28_code 6 = .ok (.getfield 124, 3) := by decide +kernel
theorem d_Mo_logCount_9 : decode prog_8_method_28_code 9 = .ok (.if_icmp .ge 17, 3) := by decide +kernel
theorem d_Mo_logCount_12 : decode prog_8_method_28_code 12 = .ok (.iload_n 1, 1) := by decide +kernel
theorem d_Mo_logCount_13 : decode prog_8_method_28_code 13 = .ok (.aload_n 0, 1) := by decide +kernel
theorem d_Mo_logCount_14 : decode prog_8_method_28_code 14 = .ok (.iload_n 2, 1) := by decide +kernel
theorem d_Mo_logCount_15 : decode prog_8_method_28_code 15 = .ok (.invokevirtual 177, 3) := by decide +kernel
theorem d_Mo_logCount_18 : decode prog_8_method_28_code 18 = .ok (.iadd, 1) := by decide +kernel
theorem d_Mo_logCount_19 : decode prog_8_method_28_code 19 = .ok (.istore_n 1, 1) := by decide +kernel
theorem d_Mo_logCount_20 : decode prog_8_method_28_code 20 = .ok (.iinc 2 1, 3) := by decide +kernel
theorem d_Mo_logCount_23 : decode prog_8_method_28_code 23 = .ok (.goto (-19), 3) := by decide +kernel
theorem d_Mo_logCount_26 : decode prog_8_method_28_code 26 = .ok (.iload_n 1, 1) := by decide +kernel
theorem d_Mo_logCount_27 : decode prog_8_method_28_code 27 = .ok (.ireturn, 1) := by decide +kernel
theorem d_Mo_run_0 : decode prog_8_method_29_code 0 = .ok (.aload_n 0, 1) := by decide +kernel
theorem d_Mo_run_1 : decode prog_8_method_29_code 1 = .ok (.iconst 0, 1) := by decide +kernel
theorem d_Mo_run_2 : decode prog_8_method_29_code 2 = .ok (.putfield 103, 3) := by decide +kernel
theorem d_Mo_run_5 : decode prog_8_method_29_code 5 = .ok (.iconst 0, 1) := by decide +kernel
theorem d_Mo_run_6 : decode prog_8_method_29_code 6 = .ok (.istore_n 1, 1) := by decide +kernel
theorem d_Mo_run_7 : decode prog_8_method_29_code 7 = .ok (.iload_n 1, 1) := by decide +kernel
theorem d_Mo_run_8 : decode prog_8_method_29_code 8 = .ok (.bipush 8, 2) := by decide +kernel
theorem d_Mo_run_10 : decode prog_8_method_29_code 10 = .ok (.if_icmp .ge 23, 3) := by decide +kernel
theorem d_Mo_run_13 : decode prog_8_method_29_code 13 = .ok (.aload_n 0, 1) := by decide +kernel
theorem d_Mo_run_14 : decode prog_8_method_29_code 14 = .ok (.getfield 67, 3) := by decide +kernel
theorem d_Mo_run_17 : decode prog_8_method_29_code 17 = .ok (.iload_n 1, 1) := by decide +kernel
theorem d_Mo_run_18 : decode prog_8_method_29_code 18 = .ok (.lconst 0, 1) := by decide +kernel
theorem d_Mo_run_19 : decode prog_8_method_29_code 19 = .ok (.lastore, 1) := by decide +kernel
theorem d_Mo_run_20 : decode prog_8_method_29_code 20 = .ok (.aload_n 0, 1) := by decide +kernel
theorem d_Mo_run_21 : decode prog_8_method_29_code 21 = .ok (.getfield 70, 3) := by decide +kernel
theorem d_Mo_run_24 : decode prog_8_method_29_code 24 = .ok (.iload_n 1, 1) := by decide +kernel
theorem d_Mo_run_25 : decode prog_8_method_29_code 25 = .ok (.lconst 0, 1) := by decide +kernel
theorem d_Mo_run_26 : decode prog_8_method_29_code 26 = .ok (.lastore, 1) := by decide +kernel
theorem d_Mo_run_27 : decode prog_8_method_29_code 27 = .ok (.iinc 1 1, 3) := by decide +kernel
theorem d_Mo_run_30 : decode prog_8_method_29_code 30 = .ok (.goto (-23), 3) := by decide +kernel
theorem d_Mo_run_33 : decode prog_8_method_29_code 33 = .ok (.aload_n 0, 1) := by decide +kernel
theorem d_Mo_run_34 : decode prog_8_method_29_code 34 = .ok (.aload_n 0, 1) := by decide +kernel
theorem d_Mo_run_35 : decode prog_8_method_29_code 35 = .ok (.invokevirtual 180, 3) := by decide +kernel
theorem d_Mo_run_38 : decode prog_8_method_29_code 38 = .ok (.putfield 184, 3) := by decide +kernel
theorem d_Mo_run_41 : decode prog_8_method_29_code 41 = .ok (.aload_n 0, 1) := by decide +kernel
theorem d_Mo_run_42 : decode prog_8_method_29_code 42 = .ok (.iconst 0, 1) := by decide +kernel
theorem d_Mo_run_43 : decode prog_8_method_29_code 43 = .ok (.putfield 188, 3) := by decide +kernel
theorem d_Mo_run_46 : decode prog_8_method_29_code 46 = .ok (.aload_n 0, 1) := by decide +kernel
theorem d_Mo_run_47 : decode prog_8_method_29_code 47 = .ok (.iconst 1, 1) := by decide +kernel
theorem d_Mo_run_48 : decode prog_8_method_29_code 48 = .ok (.putfield 106, 3) := by decide +kernel
theorem d_Mo_run_51 : decode prog_8_method_29_code 51 = .ok (.aload_n 0, 1) := by decide +kernel
theorem d_Mo_run_52 : decode prog_8_method_29_code 52 = .ok (.invokevirtual 191, 3) := by decide +kernel
theorem d_Mo_run_55 : decode prog_8_method_29_code 55 = .ok (.ireturn, 1) := by decide +kernel
theorem d_Mo_copy_0 : decode prog_8_method_30_code 0 = .ok (.iconst 0, 1) := by decide +kernel
theorem d_Mo_copy_1 : decode prog_8_method_30_code 1 = .ok (.istore_n 3, 1) := by decide +kernel
theorem d_Mo_copy_2 : decode prog_8_method_30_code 2 = .ok (.iload_n 3, 1) := by decide +kernel
theorem d_Mo_copy_3 : decode prog_8_method_30_code 3 = .ok (.sipush 486, 3) := by decide +kernel
theorem d_Mo_copy_6 : decode prog_8_method_30_code 6 = .ok (.if_icmp .ge 15, 3) := by decide +kernel
theorem d_Mo_copy_9 : decode prog_8_method_30_code 9 = .ok (.aload_n 2, 1) := by decide +kernel
theorem d_Mo_copy_10 : decode prog_8_method_30_code 10 = .ok (.iload_n 3, 1) := by decide +kernel
theorem d_Mo_copy_11 : decode prog_8_method_30_code 11 = .ok (.aload_n 1, 1) := by decide +kernel
theorem d_Mo_copy_12 : decode prog_8_method_30_code 12 = .ok (.iload_n 3, 1) := by decide +kernel
theorem d_Mo_copy_13 : decode prog_8_method_30_code 13 = .ok (.iaload, 1) := by decide +kernel
theorem d_Mo_copy_14 : decode prog_8_method_30_code 14 = .ok (.iastore, 1) := by decide +kernel
theorem d_Mo_copy_15 : decode prog_8_method_30_code 15 = .ok (.iinc 3 1, 3) := by decide +kernel
theorem d_Mo_copy_18 : decode prog_8_method_30_code 18 = .ok (.goto (-16), 3) := by decide +kernel
theorem d_Mo_copy_21 : decode prog_8_method_30_code 21 = .ok (.return_, 1) := by decide +kernel
theorem d_Mo_allHold_0 : decode prog_8_method_31_code 0 = .ok (.iconst 1, 1) := by decide +kernel
theorem d_Mo_allHold_1 : decode prog_8_method_31_code 1 = .ok (.istore_n 1, 1) := by decide +kernel
theorem d_Mo_allHold_2 : decode prog_8_method_31_code 2 = .ok (.iconst 0, 1) := by decide +kernel
theorem d_Mo_allHold_3 : decode prog_8_method_31_code 3 = .ok (.istore_n 2, 1) := by decide +kernel
theorem d_Mo_allHold_4 : decode prog_8_method_31_code 4 = .ok (.iload_n 2, 1) := by decide +kernel
theorem d_Mo_allHold_5 : decode prog_8_method_31_code 5 = .ok (.aload_n 0, 1) := by decide +kernel
theorem d_Mo_allHold_6 : decode prog_8_method_31_code 6 = .ok (.getfield 124, 3) := by decide +kernel
theorem d_Mo_allHold_9 : decode prog_8_method_31_code 9 = .ok (.if_icmp .ge 46, 3) := by decide +kernel
theorem d_Mo_allHold_12 : decode prog_8_method_31_code 12 = .ok (.iload_n 1, 1) := by decide +kernel
theorem d_Mo_allHold_13 : decode prog_8_method_31_code 13 = .ok (.ifCond .eq 34, 3) := by decide +kernel
theorem d_Mo_allHold_16 : decode prog_8_method_31_code 16 = .ok (.aload_n 0, 1) := by decide +kernel
theorem d_Mo_allHold_17 : decode prog_8_method_31_code 17 = .ok (.getfield 61, 3) := by decide +kernel
theorem d_Mo_allHold_20 : decode prog_8_method_31_code 20 = .ok (.iload_n 2, 1) := by decide +kernel
theorem d_Mo_allHold_21 : decode prog_8_method_31_code 21 = .ok (.laload, 1) := by decide +kernel
theorem d_Mo_allHold_22 : decode prog_8_method_31_code 22 = .ok (.lconst 0, 1) := by decide +kernel
theorem d_Mo_allHold_23 : decode prog_8_method_31_code 23 = .ok (.lcmp, 1) := by decide +kernel
theorem d_Mo_allHold_24 : decode prog_8_method_31_code 24 = .ok (.ifCond .lt 19, 3) := by decide +kernel
theorem d_Mo_allHold_27 : decode prog_8_method_31_code 27 = .ok (.aload_n 0, 1) := by decide +kernel
theorem d_Mo_allHold_28 : decode prog_8_method_31_code 28 = .ok (.iload_n 2, 1) := by decide +kernel
theorem d_Mo_allHold_29 : decode prog_8_method_31_code 29 = .ok (.invokevirtual 177, 3) := by decide +kernel
theorem d_Mo_allHold_32 : decode prog_8_method_31_code 32 = .ok (.i2l, 1) := by decide +kernel
theorem d_Mo_allHold_33 : decode prog_8_method_31_code 33 = .ok (.aload_n 0, 1) := by decide +kernel
theorem d_Mo_allHold_34 : decode prog_8_method_31_code 34 = .ok (.getfield 61, 3) := by decide +kernel
theorem d_Mo_allHold_37 : decode prog_8_method_31_code 37 = .ok (.iload_n 2, 1) := by decide +kernel
theorem d_Mo_allHold_38 : decode prog_8_method_31_code 38 = .ok (.laload, 1) := by decide +kernel
theorem d_Mo_allHold_39 : decode prog_8_method_31_code 39 = .ok (.lcmp, 1) := by decide +kernel
theorem d_Mo_allHold_40 : decode prog_8_method_31_code 40 = .ok (.ifCond .gt 7, 3) := by decide +kernel
theorem d_Mo_allHold_43 : decode prog_8_method_31_code 43 = .ok (.iconst 1, 1) := by decide +kernel
theorem d_Mo_allHold_44 : decode prog_8_method_31_code 44 = .ok (.goto 4, 3) := by decide +kernel
theorem d_Mo_allHold_47 : decode prog_8_method_31_code 47 = .ok (.iconst 0, 1) := by decide +kernel
theorem d_Mo_allHold_48 : decode prog_8_method_31_code 48 = .ok (.istore_n 1, 1) := by decide +kernel
theorem d_Mo_allHold_49 : decode prog_8_method_31_code 49 = .ok (.iinc 2 1, 3) := by decide +kernel
theorem d_Mo_allHold_52 : decode prog_8_method_31_code 52 = .ok (.goto (-48), 3) := by decide +kernel
theorem d_Mo_allHold_55 : decode prog_8_method_31_code 55 = .ok (.iload_n 1, 1) := by decide +kernel
theorem d_Mo_allHold_56 : decode prog_8_method_31_code 56 = .ok (.ireturn, 1) := by decide +kernel
theorem d_Mo_isSettled_0 : decode prog_8_method_32_code 0 = .ok (.aload_n 0, 1) := by decide +kernel
theorem d_Mo_isSettled_1 : decode prog_8_method_32_code 1 = .ok (.invokevirtual 195, 3) := by decide +kernel
theorem d_Mo_isSettled_4 : decode prog_8_method_32_code 4 = .ok (.istore_n 1, 1) := by decide +kernel
theorem d_Mo_isSettled_5 : decode prog_8_method_32_code 5 = .ok (.iconst 0, 1) := by decide +kernel
theorem d_Mo_isSettled_6 : decode prog_8_method_32_code 6 = .ok (.istore_n 2, 1) := by decide +kernel
theorem d_Mo_isSettled_7 : decode prog_8_method_32_code 7 = .ok (.iload_n 2, 1) := by decide +kernel
theorem d_Mo_isSettled_8 : decode prog_8_method_32_code 8 = .ok (.aload_n 0, 1) := by decide +kernel
theorem d_Mo_isSettled_9 : decode prog_8_method_32_code 9 = .ok (.getfield 124, 3) := by decide +kernel
theorem d_Mo_isSettled_12 : decode prog_8_method_32_code 12 = .ok (.if_icmp .ge 46, 3) := by decide +kernel
theorem d_Mo_isSettled_15 : decode prog_8_method_32_code 15 = .ok (.iload_n 1, 1) := by decide +kernel
theorem d_Mo_isSettled_16 : decode prog_8_method_32_code 16 = .ok (.ifCond .eq 34, 3) := by decide +kernel
theorem d_Mo_isSettled_19 : decode prog_8_method_32_code 19 = .ok (.aload_n 0, 1) := by decide +kernel
theorem d_Mo_isSettled_20 : decode prog_8_method_32_code 20 = .ok (.getfield 67, 3) := by decide +kernel
theorem d_Mo_isSettled_23 : decode prog_8_method_32_code 23 = .ok (.iload_n 2, 1) := by decide +kernel
theorem d_Mo_isSettled_24 : decode prog_8_method_32_code 24 = .ok (.laload, 1) := by decide +kernel
theorem d_Mo_isSettled_25 : decode prog_8_method_32_code 25 = .ok (.lconst 0, 1) := by decide +kernel
theorem d_Mo_isSettled_26 : decode prog_8_method_32_code 26 = .ok (.lcmp, 1) := by decide +kernel
theorem d_Mo_isSettled_27 : decode prog_8_method_32_code 27 = .ok (.ifCond .eq 19, 3) := by decide +kernel
theorem d_Mo_isSettled_30 : decode prog_8_method_32_code 30 = .ok (.aload_n 0, 1) := by decide +kernel
theorem d_Mo_isSettled_31 : decode prog_8_method_32_code 31 = .ok (.iload_n 2, 1) := by decide +kernel
theorem d_Mo_isSettled_32 : decode prog_8_method_32_code 32 = .ok (.invokevirtual 177, 3) := by decide +kernel
theorem d_Mo_isSettled_35 : decode prog_8_method_32_code 35 = .ok (.i2l, 1) := by decide +kernel
theorem d_Mo_isSettled_36 : decode prog_8_method_32_code 36 = .ok (.aload_n 0, 1) := by decide +kernel
theorem d_Mo_isSettled_37 : decode prog_8_method_32_code 37 = .ok (.getfield 61, 3) := by decide +kernel
theorem d_Mo_isSettled_40 : decode prog_8_method_32_code 40 = .ok (.iload_n 2, 1) := by decide +kernel
theorem d_Mo_isSettled_41 : decode prog_8_method_32_code 41 = .ok (.laload, 1) := by decide +kernel
theorem d_Mo_isSettled_42 : decode prog_8_method_32_code 42 = .ok (.lcmp, 1) := by decide +kernel
theorem d_Mo_isSettled_43 : decode prog_8_method_32_code 43 = .ok (.ifCond .ne 7, 3) := by decide +kernel
theorem d_Mo_isSettled_46 : decode prog_8_method_32_code 46 = .ok (.iconst 1, 1) := by decide +kernel
theorem d_Mo_isSettled_47 : decode prog_8_method_32_code 47 = .ok (.goto 4, 3) := by decide +kernel
theorem d_Mo_isSettled_50 : decode prog_8_method_32_code 50 = .ok (.iconst 0, 1) := by decide +kernel
theorem d_Mo_isSettled_51 : decode prog_8_method_32_code 51 = .ok (.istore_n 1, 1) := by decide +kernel
theorem d_Mo_isSettled_52 : decode prog_8_method_32_code 52 = .ok (.iinc 2 1, 3) := by decide +kernel
theorem d_Mo_isSettled_55 : decode prog_8_method_32_code 55 = .ok (.goto (-48), 3) := by decide +kernel
theorem d_Mo_isSettled_58 : decode prog_8_method_32_code 58 = .ok (.iload_n 1, 1) := by decide +kernel
theorem d_Mo_isSettled_59 : decode prog_8_method_32_code 59 = .ok (.ireturn, 1) := by decide +kernel
theorem d_Mo_setPrices_0 : decode prog_8_method_33_code 0 = .ok (.iconst 0, 1) := by decide +kernel
theorem d_Mo_setPrices_1 : decode prog_8_method_33_code 1 = .ok (.istore_n 2, 1) := by decide +kernel
theorem d_Mo_setPrices_2 : decode prog_8_method_33_code 2 = .ok (.iload_n 2, 1) := by decide +kernel
theorem d_Mo_setPrices_3 : decode prog_8_method_33_code 3 = .ok (.aload_n 0, 1) := by decide +kernel
theorem d_Mo_setPrices_4 : decode prog_8_method_33_code 4 = .ok (.getfield 124, 3) := by decide +kernel
theorem d_Mo_setPrices_7 : decode prog_8_method_33_code 7 = .ok (.if_icmp .ge 95, 3) := by decide +kernel
theorem d_Mo_setPrices_10 : decode prog_8_method_33_code 10 = .ok (.aload_n 0, 1) := by decide +kernel
theorem d_Mo_setPrices_11 : decode prog_8_method_33_code 11 = .ok (.getfield 70, 3) := by decide +kernel
theorem d_Mo_setPrices_14 : decode prog_8_method_33_code 14 = .ok (.iload_n 2, 1) := by decide +kernel
theorem d_Mo_setPrices_15 : decode prog_8_method_33_code 15 = .ok (.aload_n 0, 1) := by decide +kernel
theorem d_Mo_setPrices_16 : decode prog_8_method_33_code 16 = .ok (.getfield 67, 3) := by decide +kernel
theorem d_Mo_setPrices_19 : decode prog_8_method_33_code 19 = .ok (.iload_n 2, 1) := by decide +kernel
theorem d_Mo_setPrices_20 : decode prog_8_method_33_code 20 = .ok (.laload, 1) := by decide +kernel
theorem d_Mo_setPrices_21 : decode prog_8_method_33_code 21 = .ok (.lastore, 1) := by decide +kernel
theorem d_Mo_setPrices_22 : decode prog_8_method_33_code 22 = .ok (.sipush 1024, 3) := by decide +kernel
theorem d_Mo_setPrices_25 : decode prog_8_method_33_code 25 = .ok (.iload_n 1, 1) := by decide +kernel
theorem d_Mo_setPrices_26 : decode prog_8_method_33_code 26 = .ok (.idiv, 1) := by decide +kernel
theorem d_Mo_setPrices_27 : decode prog_8_method_33_code 27 = .ok (.iconst 1, 1) := by decide +kernel
theorem d_Mo_setPrices_28 : decode prog_8_method_33_code 28 = .ok (.if_icmp .le 12, 3) := by decide +kernel
theorem d_Mo_setPrices_31 : decode prog_8_method_33_code 31 = .ok (.sipush 1024, 3) := by decide +kernel
theorem d_Mo_setPrices_34 : decode prog_8_method_33_code 34 = .ok (.iload_n 1, 1) := by decide +kernel
theorem d_Mo_setPrices_35 : decode prog_8_method_33_code 35 = .ok (.idiv, 1) := by decide +kernel
theorem d_Mo_setPrices_36 : decode prog_8_method_33_code 36 = .ok (.i2l, 1) := by decide +kernel
theorem d_Mo_setPrices_37 : decode prog_8_method_33_code 37 = .ok (.goto 4, 3) := by decide +kernel
theorem d_Mo_setPrices_40 : decode prog_8_method_33_code 40 = .ok (.lconst 1, 1) := by decide +kernel
theorem d_Mo_setPrices_41 : decode prog_8_method_33_code 41 = .ok (.lstore_n 3, 1) := by decide +kernel
theorem d_Mo_setPrices_42 : decode prog_8_method_33_code 42 = .ok (.aload_n 0, 1) := by decide +kernel
theorem d_Mo_setPrices_43 : decode prog_8_method_33_code 43 = .ok (.getfield 67, 3) := by decide +kernel
theorem d_Mo_setPrices_46 : decode prog_8_method_33_code 46 = .ok (.iload_n 2, 1) := by decide +kernel
theorem d_Mo_setPrices_47 : decode prog_8_method_33_code 47 = .ok (.laload, 1) := by decide +kernel
theorem d_Mo_setPrices_48 : decode prog_8_method_33_code 48 = .ok (.aload_n 0, 1) := by decide +kernel
theorem d_Mo_setPrices_49 : decode prog_8_method_33_code 49 = .ok (.iload_n 2, 1) := by decide +kernel
theorem d_Mo_setPrices_50 : decode prog_8_method_33_code 50 = .ok (.invokevirtual 177, 3) := by decide +kernel
theorem d_Mo_setPrices_53 : decode prog_8_method_33_code 53 = .ok (.i2l, 1) := by decide +kernel
theorem d_Mo_setPrices_54 : decode prog_8_method_33_code 54 = .ok (.aload_n 0, 1) := by decide +kernel
theorem d_Mo_setPrices_55 : decode prog_8_method_33_code 55 = .ok (.getfield 61, 3) := by decide +kernel
theorem d_Mo_setPrices_58 : decode prog_8_method_33_code 58 = .ok (.iload_n 2, 1) := by decide +kernel
theorem d_Mo_setPrices_59 : decode prog_8_method_33_code 59 = .ok (.laload, 1) := by decide +kernel
theorem d_Mo_setPrices_60 : decode prog_8_method_33_code 60 = .ok (.lsub, 1) := by decide +kernel
theorem d_Mo_setPrices_61 : decode prog_8_method_33_code 61 = .ok (.lload_n 3, 1) := by decide +kernel
theorem d_Mo_setPrices_62 : decode prog_8_method_33_code 62 = .ok (.lmul, 1) := by decide +kernel
theorem d_Mo_setPrices_63 : decode prog_8_method_33_code 63 = .ok (.ladd, 1) := by decide +kernel
theorem d_Mo_setPrices_64 : decode prog_8_method_33_code 64 = .ok (.lstore 5, 2) := by decide +kernel
theorem d_Mo_setPrices_66 : decode prog_8_method_33_code 66 = .ok (.aload_n 0, 1) := by decide +kernel
theorem d_Mo_setPrices_67 : decode prog_8_method_33_code 67 = .ok (.getfield 67, 3) := by decide +kernel
theorem d_Mo_setPrices_70 : decode prog_8_method_33_code 70 = .ok (.iload_n 2, 1) := by decide +kernel
theorem d_Mo_setPrices_71 : decode prog_8_method_33_code 71 = .ok (.aload_n 0, 1) := by decide +kernel
theorem d_Mo_setPrices_72 : decode prog_8_method_33_code 72 = .ok (.getfield 61, 3) := by decide +kernel
theorem d_Mo_setPrices_75 : decode prog_8_method_33_code 75 = .ok (.iload_n 2, 1) := by decide +kernel
theorem d_Mo_setPrices_76 : decode prog_8_method_33_code 76 = .ok (.laload, 1) := by decide +kernel
theorem d_Mo_setPrices_77 : decode prog_8_method_33_code 77 = .ok (.lconst 0, 1) := by decide +kernel
theorem d_Mo_setPrices_78 : decode prog_8_method_33_code 78 = .ok (.lcmp, 1) := by decide +kernel
theorem d_Mo_setPrices_79 : decode prog_8_method_33_code 79 = .ok (.ifCond .lt 10, 3) := by decide +kernel
theorem d_Mo_setPrices_82 : decode prog_8_method_33_code 82 = .ok (.lload 5, 2) := by decide +kernel
theorem d_Mo_setPrices_84 : decode prog_8_method_33_code 84 = .ok (.lconst 0, 1) := by decide +kernel
theorem d_Mo_setPrices_85 : decode prog_8_method_33_code 85 = .ok (.lcmp, 1) := by decide +kernel
theorem d_Mo_setPrices_86 : decode prog_8_method_33_code 86 = .ok (.ifCond .ge 7, 3) := by decide +kernel
theorem d_Mo_setPrices_89 : decode prog_8_method_33_code 89 = .ok (.lconst 0, 1) := by decide +kernel
theorem d_Mo_setPrices_90 : decode prog_8_method_33_code 90 = .ok (.goto 5, 3) := by decide +kernel
theorem d_Mo_setPrices_93 : decode prog_8_method_33_code 93 = .ok (.lload 5, 2) := by decide +kernel
theorem d_Mo_setPrices_95 : decode prog_8_method_33_code 95 = .ok (.lastore, 1) := by decide +kernel
theorem d_Mo_setPrices_96 : decode prog_8_method_33_code 96 = .ok (.iinc 2 1, 3) := by decide +kernel
theorem d_Mo_setPrices_99 : decode prog_8_method_33_code 99 = .ok (.goto (-97), 3) := by decide +kernel
theorem d_Mo_setPrices_102 : decode prog_8_method_33_code 102 = .ok (.return_, 1) := by decide +kernel
theorem d_Mo_giveWay_0 : decode prog_8_method_34_code 0 = .ok (.aload_n 0, 1) := by decide +kernel
theorem d_Mo_giveWay_1 : decode prog_8_method_34_code 1 = .ok (.getfield 61, 3) := by decide +kernel
theorem d_Mo_giveWay_4 : decode prog_8_method_34_code 4 = .ok (.iload_n 1, 1) := by decide +kernel
theorem d_Mo_giveWay_5 : decode prog_8_method_34_code 5 = .ok (.laload, 1) := by decide +kernel
theorem d_Mo_giveWay_6 : decode prog_8_method_34_code 6 = .ok (.lconst 0, 1) := by decide +kernel
theorem d_Mo_giveWay_7 : decode prog_8_method_34_code 7 = .ok (.lcmp, 1) := by decide +kernel
theorem d_Mo_giveWay_8 : decode prog_8_method_34_code 8 = .ok (.ifCond .ge 7, 3) := by decide +kernel
theorem d_Mo_giveWay_11 : decode prog_8_method_34_code 11 = .ok (.iconst 0, 1) := by decide +kernel
theorem d_Mo_giveWay_12 : decode prog_8_method_34_code 12 = .ok (.goto 16, 3) := by decide +kernel
theorem d_Mo_giveWay_15 : decode prog_8_method_34_code 15 = .ok (.aload_n 0, 1) := by decide +kernel
theorem d_Mo_giveWay_16 : decode prog_8_method_34_code 16 = .ok (.iload_n 1, 1) := by decide +kernel
theorem d_Mo_giveWay_17 : decode prog_8_method_34_code 17 = .ok (.invokevirtual 177, 3) := by decide +kernel
theorem d_Mo_giveWay_20 : decode prog_8_method_34_code 20 = .ok (.aload_n 0, 1) := by decide +kernel
theorem d_Mo_giveWay_21 : decode prog_8_method_34_code 21 = .ok (.getfield 61, 3) := by decide +kernel
theorem d_Mo_giveWay_24 : decode prog_8_method_34_code 24 = .ok (.iload_n 1, 1) := by decide +kernel
theorem d_Mo_giveWay_25 : decode prog_8_method_34_code 25 = .ok (.laload, 1) := by decide +kernel
theorem d_Mo_giveWay_26 : decode prog_8_method_34_code 26 = .ok (.l2i, 1) := by decide +kernel
theorem d_Mo_giveWay_27 : decode prog_8_method_34_code 27 = .ok (.isub, 1) := by decide +kernel
theorem d_Mo_giveWay_28 : decode prog_8_method_34_code 28 = .ok (.istore_n 2, 1) := by decide +kernel
theorem d_Mo_giveWay_29 : decode prog_8_method_34_code 29 = .ok (.aload_n 0, 1) := by decide +kernel
theorem d_Mo_giveWay_30 : decode prog_8_method_34_code 30 = .ok (.getfield 7, 3) := by decide +kernel
theorem d_Mo_giveWay_33 : decode prog_8_method_34_code 33 = .ok (.iconst 1, 1) := by decide +kernel
theorem d_Mo_giveWay_34 : decode prog_8_method_34_code 34 = .ok (.isub, 1) := by decide +kernel
theorem d_Mo_giveWay_35 : decode prog_8_method_34_code 35 = .ok (.istore_n 3, 1) := by decide +kernel
theorem d_Mo_giveWay_36 : decode prog_8_method_34_code 36 = .ok (.iload_n 3, 1) := by decide +kernel
theorem d_Mo_giveWay_37 : decode prog_8_method_34_code 37 = .ok (.ifCond .lt 85, 3) := by decide +kernel
theorem d_Mo_giveWay_40 : decode prog_8_method_34_code 40 = .ok (.aload_n 0, 1) := by decide +kernel
theorem d_Mo_giveWay_41 : decode prog_8_method_34_code 41 = .ok (.iload_n 3, 1) := by decide +kernel
theorem d_Mo_giveWay_42 : decode prog_8_method_34_code 42 = .ok (.invokevirtual 131, 3) := by decide +kernel
theorem d_Mo_giveWay_45 : decode prog_8_method_34_code 45 = .ok (.iconst 1, 1) := by decide +kernel
theorem d_Mo_giveWay_46 : decode prog_8_method_34_code 46 = .ok (.isub, 1) := by decide +kernel
theorem d_Mo_giveWay_47 : decode prog_8_method_34_code 47 = .ok (.istore 4, 2) := by decide +kernel
theorem d_Mo_giveWay_49 : decode prog_8_method_34_code 49 = .ok (.iload 4, 2) := by decide +kernel
theorem d_Mo_giveWay_51 : decode prog_8_method_34_code 51 = .ok (.ifCond .lt 65, 3) := by decide +kernel
theorem d_Mo_giveWay_54 : decode prog_8_method_34_code 54 = .ok (.bipush 81, 2) := by decide +kernel
theorem d_Mo_giveWay_56 : decode prog_8_method_34_code 56 = .ok (.iload_n 3, 1) := by decide +kernel
theorem d_Mo_giveWay_57 : decode prog_8_method_34_code 57 = .ok (.imul, 1) := by decide +kernel
theorem d_Mo_giveWay_58 : decode prog_8_method_34_code 58 = .ok (.iload 4, 2) := by decide +kernel
theorem d_Mo_giveWay_60 : decode prog_8_method_34_code 60 = .ok (.iadd, 1) := by decide +kernel
theorem d_Mo_giveWay_61 : decode prog_8_method_34_code 61 = .ok (.istore 5, 2) := by decide +kernel
theorem d_Mo_giveWay_63 : decode prog_8_method_34_code 63 = .ok (.iload_n 2, 1) := by decide +kernel
theorem d_Mo_giveWay_64 : decode prog_8_method_34_code 64 = .ok (.ifCond .le 46, 3) := by decide +kernel
theorem d_Mo_giveWay_67 : decode prog_8_method_34_code 67 = .ok (.aload_n 0, 1) := by decide +kernel
theorem d_Mo_giveWay_68 : decode prog_8_method_34_code 68 = .ok (.getfield 73, 3) := by decide +kernel
theorem d_Mo_giveWay_71 : decode prog_8_method_34_code 71 = .ok (.iload 5, 2) := by decide +kernel
theorem d_Mo_giveWay_73 : decode prog_8_method_34_code 73 = .ok (.iaload, 1) := by decide +kernel
theorem d_Mo_giveWay_74 : decode prog_8_method_34_code 74 = .ok (.iconst 1, 1) := by decide +kernel
theorem d_Mo_giveWay_75 : decode prog_8_method_34_code 75 = .ok (.if_icmp .ne 35, 3) := by decide +kernel
theorem d_Mo_giveWay_78 : decode prog_8_method_34_code 78 = .ok (.aload_n 0, 1) := by decide +kernel
theorem d_Mo_giveWay_79 : decode prog_8_method_34_code 79 = .ok (.getfield 79, 3) := by decide +kernel
theorem d_Mo_giveWay_82 : decode prog_8_method_34_code 82 = .ok (.iload 5, 2) := by decide +kernel
theorem d_Mo_giveWay_84 : decode prog_8_method_34_code 84 = .ok (.iaload, 1) := by decide +kernel
theorem d_Mo_giveWay_85 : decode prog_8_method_34_code 85 = .ok (.iload_n 1, 1) := by decide +kernel
theorem d_Mo_giveWay_86 : decode prog_8_method_34_code 86 = .ok (.if_icmp .ne 24, 3) := by decide +kernel
theorem d_Mo_giveWay_89 : decode prog_8_method_34_code 89 = .ok (.aload_n 0, 1) := by decide +kernel
theorem d_Mo_giveWay_90 : decode prog_8_method_34_code 90 = .ok (.iload_n 3, 1) := by decide +kernel
theorem d_Mo_giveWay_91 : decode prog_8_method_34_code 91 = .ok (.iload 4, 2) := by decide +kernel
theorem d_Mo_giveWay_93 : decode prog_8_method_34_code 93 = .ok (.iload 4, 2) := by decide +kernel
theorem d_Mo_giveWay_95 : decode prog_8_method_34_code 95 = .ok (.aload_n 0, 1) := by decide +kernel
theorem d_Mo_giveWay_96 : decode prog_8_method_34_code 96 = .ok (.getfield 76, 3) := by decide +kernel
theorem d_Mo_giveWay_99 : decode prog_8_method_34_code 99 = .ok (.iload 5, 2) := by decide +kernel
theorem d_Mo_giveWay_101 : decode prog_8_method_34_code 101 = .ok (.iaload, 1) := by decide +kernel
theorem d_Mo_giveWay_102 : decode prog_8_method_34_code 102 = .ok (.iadd, 1) := by decide +kernel
theorem d_Mo_giveWay_103 : decode prog_8_method_34_code 103 = .ok (.iconst 2, 1) := by decide +kernel
theorem d_Mo_giveWay_104 : decode prog_8_method_34_code 104 = .ok (.invokevirtual 166, 3) := by decide +kernel
theorem d_Mo_giveWay_107 : decode prog_8_method_34_code 107 = .ok (.iinc 2 (-1), 3) := by decide +kernel
theorem d_Mo_giveWay_110 : decode prog_8_method_34_code 110 = .ok (.iinc 4 (-1), 3) := by decide +kernel
theorem d_Mo_giveWay_113 : decode prog_8_method_34_code 113 = .ok (.goto (-64), 3) := by decide +kernel
theorem d_Mo_giveWay_116 : decode prog_8_method_34_code 116 = .ok (.iinc 3 (-1), 3) := by decide +kernel
theorem d_Mo_giveWay_119 : decode prog_8_method_34_code 119 = .ok (.goto (-83), 3) := by decide +kernel
theorem d_Mo_giveWay_122 : decode prog_8_method_34_code 122 = .ok (.return_, 1) := by decide +kernel
theorem d_Mo_goRounds_0 : decode prog_8_method_35_code 0 = .ok (.iconst 0, 1) := by decide +kernel
theorem d_Mo_goRounds_1 : decode prog_8_method_35_code 1 = .ok (.istore_n 2, 1) := by decide +kernel
theorem d_Mo_goRounds_2 : decode prog_8_method_35_code 2 = .ok (.iload_n 2, 1) := by decide +kernel
theorem d_Mo_goRounds_3 : decode prog_8_method_35_code 3 = .ok (.bipush 8, 2) := by decide +kernel
theorem d_Mo_goRounds_5 : decode prog_8_method_35_code 5 = .ok (.if_icmp .ge 16, 3) := by decide +kernel
theorem d_Mo_goRounds_8 : decode prog_8_method_35_code 8 = .ok (.aload_n 0, 1) := by decide +kernel
theorem d_Mo_goRounds_9 : decode prog_8_method_35_code 9 = .ok (.getfield 67, 3) := by decide +kernel
theorem d_Mo_goRounds_12 : decode prog_8_method_35_code 12 = .ok (.iload_n 2, 1) := by decide +kernel
theorem d_Mo_goRounds_13 : decode prog_8_method_35_code 13 = .ok (.lconst 0, 1) := by decide +kernel
theorem d_Mo_goRounds_14 : decode prog_8_method_35_code 14 = .ok (.lastore, 1) := by decide +kernel
theorem d_Mo_goRounds_15 : decode prog_8_method_35_code 15 = .ok (.iinc 2 1, 3) := by decide +kernel
theorem d_Mo_goRounds_18 : decode prog_8_method_35_code 18 = .ok (.goto (-16), 3) := by decide +kernel
theorem d_Mo_goRounds_21 : decode prog_8_method_35_code 21 = .ok (.iconst 0, 1) := by decide +kernel
theorem d_Mo_goRounds_22 : decode prog_8_method_35_code 22 = .ok (.istore_n 2, 1) := by decide +kernel
theorem d_Mo_goRounds_23 : decode prog_8_method_35_code 23 = .ok (.lconst 0, 1) := by decide +kernel
theorem d_Mo_goRounds_24 : decode prog_8_method_35_code 24 = .ok (.lstore_n 3, 1) := by decide +kernel
theorem d_Mo_goRounds_25 : decode prog_8_method_35_code 25 = .ok (.iconst 0, 1) := by decide +kernel
theorem d_Mo_goRounds_26 : decode prog_8_method_35_code 26 = .ok (.istore 5, 2) := by decide +kernel
theorem d_Mo_goRounds_28 : decode prog_8_method_35_code 28 = .ok (.iconst 0, 1) := by decide +kernel
theorem d_Mo_goRounds_29 : decode prog_8_method_35_code 29 = .ok (.istore 6, 2) := by decide +kernel
theorem d_Mo_goRounds_31 : decode prog_8_method_35_code 31 = .ok (.iload 6, 2) := by decide +kernel
theorem d_Mo_goRounds_33 : decode prog_8_method_35_code 33 = .ok (.iload_n 1, 1) := by decide +kernel
theorem d_Mo_goRounds_34 : decode prog_8_method_35_code 34 = .ok (.if_icmp .ge 178, 3) := by decide +kernel
theorem d_Mo_goRounds_37 : decode prog_8_method_35_code 37 = .ok (.iload 5, 2) := by decide +kernel
theorem d_Mo_goRounds_39 : decode prog_8_method_35_code 39 = .ok (.ifCond .ne 173, 3) := by decide +kernel
theorem d_Mo_goRounds_42 : decode prog_8_method_35_code 42 = .ok (.iinc 6 1, 3) := by decide +kernel
theorem d_Mo_goRounds_45 : decode prog_8_method_35_code 45 = .ok (.aload_n 0, 1) := by decide +kernel
theorem d_Mo_goRounds_46 : decode prog_8_method_35_code 46 = .ok (.invokevirtual 180, 3) := by decide +kernel
theorem d_Mo_goRounds_49 : decode prog_8_method_35_code 49 = .ok (.lstore 7, 2) := by decide +kernel
theorem d_Mo_goRounds_51 : decode prog_8_method_35_code 51 = .ok (.iconst 0, 1) := by decide +kernel
theorem d_Mo_goRounds_52 : decode prog_8_method_35_code 52 = .ok (.istore 9, 2) := by decide +kernel
theorem d_Mo_goRounds_54 : decode prog_8_method_35_code 54 = .ok (.iload 9, 2) := by decide +kernel
theorem d_Mo_goRounds_56 : decode prog_8_method_35_code 56 = .ok (.aload_n 0, 1) := by decide +kernel
theorem d_Mo_goRounds_57 : decode prog_8_method_35_code 57 = .ok (.getfield 124, 3) := by decide +kernel
theorem d_Mo_goRounds_60 : decode prog_8_method_35_code 60 = .ok (.if_icmp .ge 45, 3) := by decide +kernel
theorem d_Mo_goRounds_63 : decode prog_8_method_35_code 63 = .ok (.lload 7, 2) := by decide +kernel
theorem d_Mo_goRounds_65 : decode prog_8_method_35_code 65 = .ok (.aload_n 0, 1) := by decide +kernel
theorem d_Mo_goRounds_66 : decode prog_8_method_35_code 66 = .ok (.getfield 61, 3) := by decide +kernel
theorem d_Mo_goRounds_69 : decode prog_8_method_35_code 69 = .ok (.iload 9, 2) := by decide +kernel
theorem d_Mo_goRounds_71 : decode prog_8_method_35_code 71 = .ok (.laload, 1) := by decide +kernel
theorem d_Mo_goRounds_72 : decode prog_8_method_35_code 72 = .ok (.lconst 0, 1) := by decide +kernel
theorem d_Mo_goRounds_73 : decode prog_8_method_35_code 73 = .ok (.lcmp, 1) := by decide +kernel
theorem d_Mo_goRounds_74 : decode prog_8_method_35_code 74 = .ok (.ifCond .ge 7, 3) := by decide +kernel
theorem d_Mo_goRounds_77 : decode prog_8_method_35_code 77 = .ok (.lconst 0, 1) := by decide +kernel
theorem d_Mo_goRounds_78 : decode prog_8_method_35_code 78 = .ok (.goto 18, 3) := by decide +kernel
theorem d_Mo_goRounds_81 : decode prog_8_method_35_code 81 = .ok (.aload_n 0, 1) := by decide +kernel
theorem d_Mo_goRounds_82 : decode prog_8_method_35_code 82 = .ok (.getfield 67, 3) := by decide +kernel
theorem d_Mo_goRounds_85 : decode prog_8_method_35_code 85 = .ok (.iload 9, 2) := by decide +kernel
theorem d_Mo_goRounds_87 : decode prog_8_method_35_code 87 = .ok (.laload, 1) := by decide +kernel
theorem d_Mo_goRounds_88 : decode prog_8_method_35_code 88 = .ok (.aload_n 0, 1) := by decide +kernel
theorem d_Mo_goRounds_89 : decode prog_8_method_35_code 89 = .ok (.getfield 61, 3) := by decide +kernel
theorem d_Mo_goRounds_92 : decode prog_8_method_35_code 92 = .ok (.iload 9, 2) := by decide +kernel
theorem d_Mo_goRounds_94 : decode prog_8_method_35_code 94 = .ok (.laload, 1) := by decide +kernel
theorem d_Mo_goRounds_95 : decode prog_8_method_35_code 95 = .ok (.lmul, 1) := by decide +kernel
theorem d_Mo_goRounds_96 : decode prog_8_method_35_code 96 = .ok (.ladd, 1) := by decide +kernel
theorem d_Mo_goRounds_97 : decode prog_8_method_35_code 97 = .ok (.lstore 7, 2) := by decide +kernel
theorem d_Mo_goRounds_99 : decode prog_8_method_35_code 99 = .ok (.iinc 9 1, 3) := by decide +kernel
theorem d_Mo_goRounds_102 : decode prog_8_method_35_code 102 = .ok (.goto (-48), 3) := by decide +kernel
theorem d_Mo_goRounds_105 : decode prog_8_method_35_code 105 = .ok (.aload_n 0, 1) := by decide +kernel
theorem d_Mo_goRounds_106 : decode prog_8_method_35_code 106 = .ok (.iload 6, 2) := by decide +kernel
theorem d_Mo_goRounds_108 : decode prog_8_method_35_code 108 = .ok (.iconst 1, 1) := by decide +kernel
theorem d_Mo_goRounds_109 : decode prog_8_method_35_code 109 = .ok (.if_icmp .eq 13, 3) := by decide +kernel
theorem d_Mo_goRounds_112 : decode prog_8_method_35_code 112 = .ok (.lload 7, 2) := by decide +kernel
theorem d_Mo_goRounds_114 : decode prog_8_method_35_code 114 = .ok (.aload_n 0, 1) := by decide +kernel
theorem d_Mo_goRounds_115 : decode prog_8_method_35_code 115 = .ok (.getfield 184, 3) := by decide +kernel
theorem d_Mo_goRounds_118 : decode prog_8_method_35_code 118 = .ok (.lcmp, 1) := by decide +kernel
theorem d_Mo_goRounds_119 : decode prog_8_method_35_code 119 = .ok (.ifCond .ge 8, 3) := by decide +kernel
theorem d_Mo_goRounds_122 : decode prog_8_method_35_code 122 = .ok (.lload 7, 2) := by decide +kernel
theorem d_Mo_goRounds_124 : decode prog_8_method_35_code 124 = .ok (.goto 7, 3) := by decide +kernel
theorem d_Mo_goRounds_127 : decode prog_8_method_35_code 127 = .ok (.aload_n 0, 1) := by decide +kernel
theorem d_Mo_goRounds_128 : decode prog_8_method_35_code 128 = .ok (.getfield 184, 3) := by decide +kernel
theorem d_Mo_goRounds_131 : decode prog_8_method_35_code 131 = .ok (.putfield 184, 3) := by decide +kernel
theorem d_Mo_goRounds_134 : decode prog_8_method_35_code 134 = .ok (.aload_n 0, 1) := by decide +kernel
theorem d_Mo_goRounds_135 : decode prog_8_method_35_code 135 = .ok (.invokevirtual 195, 3) := by decide +kernel
theorem d_Mo_goRounds_138 : decode prog_8_method_35_code 138 = .ok (.ifCond .eq 59, 3) := by decide +kernel
theorem d_Mo_goRounds_141 : decode prog_8_method_35_code 141 = .ok (.iload_n 2, 1) := by decide +kernel
theorem d_Mo_goRounds_142 : decode prog_8_method_35_code 142 = .ok (.ifCond .eq 12, 3) := by decide +kernel
theorem d_Mo_goRounds_145 : decode prog_8_method_35_code 145 = .ok (.aload_n 0, 1) := by decide +kernel
theorem d_Mo_goRounds_146 : decode prog_8_method_35_code 146 = .ok (.invokevirtual 199, 3) := by decide +kernel
theorem d_Mo_goRounds_149 : decode prog_8_method_35_code 149 = .ok (.lload_n 3, 1) := by decide +kernel
theorem d_Mo_goRounds_150 : decode prog_8_method_35_code 150 = .ok (.lcmp, 1) := by decide +kernel
theorem d_Mo_goRounds_151 : decode prog_8_method_35_code 151 = .ok (.ifCond .le 46, 3) := by decide +kernel
theorem d_Mo_goRounds_154 : decode prog_8_method_35_code 154 = .ok (.iconst 1, 1) := by decide +kernel
theorem d_Mo_goRounds_155 : decode prog_8_method_35_code 155 = .ok (.istore_n 2, 1) := by decide +kernel
theorem d_Mo_goRounds_156 : decode prog_8_method_35_code 156 = .ok (.aload_n 0, 1) := by decide +kernel
theorem d_Mo_goRounds_157 : decode prog_8_method_35_code 157 = .ok (.invokevirtual 199, 3) := by decide +kernel
theorem d_Mo_goRounds_160 : decode prog_8_method_35_code 160 = .ok (.lstore_n 3, 1) := by decide +kernel
theorem d_Mo_goRounds_161 : decode prog_8_method_35_code 161 = .ok (.aload_n 0, 1) := by decide +kernel
theorem d_Mo_goRounds_162 : decode prog_8_method_35_code 162 = .ok (.aload_n 0, 1) := by decide +kernel
theorem d_Mo_goRounds_163 : decode prog_8_method_35_code 163 = .ok (.getfield 73, 3) := by decide +kernel
theorem d_Mo_goRounds_166 : decode prog_8_method_35_code 166 = .ok (.aload_n 0, 1) := by decide +kernel
theorem d_Mo_goRounds_167 : decode prog_8_method_35_code 167 = .ok (.getfield 82, 3) := by decide +kernel
theorem d_Mo_goRounds_170 : decode prog_8_method_35_code 170 = .ok (.invokevirtual 202, 3) := by decide +kernel
theorem d_Mo_goRounds_173 : decode prog_8_method_35_code 173 = .ok (.aload_n 0, 1) := by decide +kernel
theorem d_Mo_goRounds_174 : decode prog_8_method_35_code 174 = .ok (.aload_n 0, 1) := by decide +kernel
theorem d_Mo_goRounds_175 : decode prog_8_method_35_code 175 = .ok (.getfield 76, 3) := by decide +kernel
theorem d_Mo_goRounds_178 : decode prog_8_method_35_code 178 = .ok (.aload_n 0, 1) := by decide +kernel
theorem d_Mo_goRounds_179 : decode prog_8_method_35_code 179 = .ok (.getfield 85, 3) := by decide +kernel
theorem d_Mo_goRounds_182 : decode prog_8_method_35_code 182 = .ok (.invokevirtual 202, 3) := by decide +kernel
theorem d_Mo_goRounds_185 : decode prog_8_method_35_code 185 = .ok (.aload_n 0, 1) := by decide +kernel
theorem d_Mo_goRounds_186 : decode prog_8_method_35_code 186 = .ok (.aload_n 0, 1) := by decide +kernel
theorem d_Mo_goRounds_187 : decode prog_8_method_35_code 187 = .ok (.getfield 79, 3) := by decide +kernel
theorem d_Mo_goRounds_190 : decode prog_8_method_35_code 190 = .ok (.aload_n 0, 1) := by decide +kernel
theorem d_Mo_goRounds_191 : decode prog_8_method_35_code 191 = .ok (.getfield 88, 3) := by decide +kernel
theorem d_Mo_goRounds_194 : decode prog_8_method_35_code 194 = .ok (.invokevirtual 202, 3) := by decide +kernel
theorem d_Mo_goRounds_197 : decode prog_8_method_35_code 197 = .ok (.aload_n 0, 1) := by decide +kernel
theorem d_Mo_goRounds_198 : decode prog_8_method_35_code 198 = .ok (.invokevirtual 206, 3) := by decide +kernel
theorem d_Mo_goRounds_201 : decode prog_8_method_35_code 201 = .ok (.istore 5, 2) := by decide +kernel
theorem d_Mo_goRounds_203 : decode prog_8_method_35_code 203 = .ok (.aload_n 0, 1) := by decide +kernel
theorem d_Mo_goRounds_204 : decode prog_8_method_35_code 204 = .ok (.iload 6, 2) := by decide +kernel
theorem d_Mo_goRounds_206 : decode prog_8_method_35_code 206 = .ok (.invokevirtual 209, 3) := by decide +kernel
theorem d_Mo_goRounds_209 : decode prog_8_method_35_code 209 = .ok (.goto (-178), 3) := by decide +kernel
theorem d_Mo_goRounds_212 : decode prog_8_method_35_code 212 = .ok (.iload_n 2, 1) := by decide +kernel
theorem d_Mo_goRounds_213 : decode prog_8_method_35_code 213 = .ok (.ifCond .eq 42, 3) := by decide +kernel
theorem d_Mo_goRounds_216 : decode prog_8_method_35_code 216 = .ok (.aload_n 0, 1) := by decide +kernel
theorem d_Mo_goRounds_217 : decode prog_8_method_35_code 217 = .ok (.aload_n 0, 1) := by decide +kernel
theorem d_Mo_goRounds_218 : decode prog_8_method_35_code 218 = .ok (.getfield 82, 3) := by decide +kernel
theorem d_Mo_goRounds_221 : decode prog_8_method_35_code 221 = .ok (.aload_n 0, 1) := by decide +kernel
theorem d_Mo_goRounds_222 : decode prog_8_method_35_code 222 = .ok (.getfield 73, 3) := by decide +kernel
theorem d_Mo_goRounds_225 : decode prog_8_method_35_code 225 = .ok (.invokevirtual 202, 3) := by decide +kernel
theorem d_Mo_goRounds_228 : decode prog_8_method_35_code 228 = .ok (.aload_n 0, 1) := by decide +kernel
theorem d_Mo_goRounds_229 : decode prog_8_method_35_code 229 = .ok (.aload_n 0, 1) := by decide +kernel
theorem d_Mo_goRounds_230 : decode prog_8_method_35_code 230 = .ok (.getfield 85, 3) := by decide +kernel
theorem d_Mo_goRounds_233 : decode prog_8_method_35_code 233 = .ok (.aload_n 0, 1) := by decide +kernel
theorem d_Mo_goRounds_234 : decode prog_8_method_35_code 234 = .ok (.getfield 76, 3) := by decide +kernel
theorem d_Mo_goRounds_237 : decode prog_8_method_35_code 237 = .ok (.invokevirtual 202, 3) := by decide +kernel
theorem d_Mo_goRounds_240 : decode prog_8_method_35_code 240 = .ok (.aload_n 0, 1) := by decide +kernel
theorem d_Mo_goRounds_241 : decode prog_8_method_35_code 241 = .ok (.aload_n 0, 1) := by decide +kernel
theorem d_Mo_goRounds_242 : decode prog_8_method_35_code 242 = .ok (.getfield 88, 3) := by decide +kernel
theorem d_Mo_goRounds_245 : decode prog_8_method_35_code 245 = .ok (.aload_n 0, 1) := by decide +kernel
theorem d_Mo_goRounds_246 : decode prog_8_method_35_code 246 = .ok (.getfield 79, 3) := by decide +kernel
theorem d_Mo_goRounds_249 : decode prog_8_method_35_code 249 = .ok (.invokevirtual 202, 3) := by decide +kernel
theorem d_Mo_goRounds_252 : decode prog_8_method_35_code 252 = .ok (.goto 27, 3) := by decide +kernel
theorem d_Mo_goRounds_255 : decode prog_8_method_35_code 255 = .ok (.iconst 0, 1) := by decide +kernel
theorem d_Mo_goRounds_256 : decode prog_8_method_35_code 256 = .ok (.istore 7, 2) := by decide +kernel
theorem d_Mo_goRounds_258 : decode prog_8_method_35_code 258 = .ok (.iload 7, 2) := by decide +kernel
theorem d_Mo_goRounds_260 : decode prog_8_method_35_code 260 = .ok (.aload_n 0, 1) := by decide +kernel
theorem d_Mo_goRounds_261 : decode prog_8_method_35_code 261 = .ok (.getfield 124, 3) := by decide +kernel
theorem d_Mo_goRounds_264 : decode prog_8_method_35_code 264 = .ok (.if_icmp .ge 15, 3) := by decide +kernel
theorem d_Mo_goRounds_267 : decode prog_8_method_35_code 267 = .ok (.aload_n 0, 1) := by decide +kernel
theorem d_Mo_goRounds_268 : decode prog_8_method_35_code 268 = .ok (.iload 7, 2) := by decide +kernel
theorem d_Mo_goRounds_270 : decode prog_8_method_35_code 270 = .ok (.invokevirtual 212, 3) := by decide +kernel
theorem d_Mo_goRounds_273 : decode prog_8_method_35_code 273 = .ok (.iinc 7 1, 3) := by decide +kernel
theorem d_Mo_goRounds_276 : decode prog_8_method_35_code 276 = .ok (.goto (-18), 3) := by decide +kernel
theorem d_Mo_goRounds_279 : decode prog_8_method_35_code 279 = .ok (.aload_n 0, 1) := by decide +kernel
theorem d_Mo_goRounds_280 : decode prog_8_method_35_code 280 = .ok (.iload_n 1, 1) := by decide +kernel
theorem d_Mo_goRounds_281 : decode prog_8_method_35_code 281 = .ok (.putfield 188, 3) := by decide +kernel
theorem d_Mo_goRounds_284 : decode prog_8_method_35_code 284 = .ok (.aload_n 0, 1) := by decide +kernel
theorem d_Mo_goRounds_285 : decode prog_8_method_35_code 285 = .ok (.iconst 1, 1) := by decide +kernel
theorem d_Mo_goRounds_286 : decode prog_8_method_35_code 286 = .ok (.putfield 106, 3) := by decide +kernel
theorem d_Mo_goRounds_289 : decode prog_8_method_35_code 289 = .ok (.iload 6, 2) := by decide +kernel
theorem d_Mo_goRounds_291 : decode prog_8_method_35_code 291 = .ok (.ireturn, 1) := by decide +kernel
theorem d_Mo_priced_0 : decode prog_8_method_36_code 0 = .ok (.aload_n 0, 1) := by decide +kernel
theorem d_Mo_priced_1 : decode prog_8_method_36_code 1 = .ok (.iload_n 1, 1) := by decide +kernel
theorem d_Mo_priced_2 : decode prog_8_method_36_code 2 = .ok (.i2l, 1) := by decide +kernel
theorem d_Mo_priced_3 : decode prog_8_method_36_code 3 = .ok (.lconst 1, 1) := by decide +kernel
theorem d_Mo_priced_4 : decode prog_8_method_36_code 4 = .ok (.ldc2_w 215, 3) := by decide +kernel
theorem d_Mo_priced_7 : decode prog_8_method_36_code 7 = .ok (.invokestatic 112, 3) := by decide +kernel
theorem d_Mo_priced_10 : decode prog_8_method_36_code 10 = .ok (.ifCond .eq 7, 3) := by decide +kernel
theorem d_Mo_priced_13 : decode prog_8_method_36_code 13 = .ok (.iconst 0, 1) := by decide +kernel
theorem d_Mo_priced_14 : decode prog_8_method_36_code 14 = .ok (.goto 4, 3) := by decide +kernel
theorem d_Mo_priced_17 : decode prog_8_method_36_code 17 = .ok (.iconst 1, 1) := by decide +kernel
theorem d_Mo_priced_18 : decode prog_8_method_36_code 18 = .ok (.putfield 103, 3) := by decide +kernel
theorem d_Mo_priced_21 : decode prog_8_method_36_code 21 = .ok (.aload_n 0, 1) := by decide +kernel
theorem d_Mo_priced_22 : decode prog_8_method_36_code 22 = .ok (.getfield 103, 3) := by decide +kernel
theorem d_Mo_priced_25 : decode prog_8_method_36_code 25 = .ok (.ifCond .le 7, 3) := by decide +kernel
theorem d_Mo_priced_28 : decode prog_8_method_36_code 28 = .ok (.iconst 0, 1) := by decide +kernel
theorem d_Mo_priced_29 : decode prog_8_method_36_code 29 = .ok (.goto 8, 3) := by decide +kernel
theorem d_Mo_priced_32 : decode prog_8_method_36_code 32 = .ok (.aload_n 0, 1) := by decide +kernel
theorem d_Mo_priced_33 : decode prog_8_method_36_code 33 = .ok (.iload_n 1, 1) := by decide +kernel
theorem d_Mo_priced_34 : decode prog_8_method_36_code 34 = .ok (.invokevirtual 217, 3) := by decide +kernel
theorem d_Mo_priced_37 : decode prog_8_method_36_code 37 = .ok (.ireturn, 1) := by decide +kernel
theorem d_Mo_none_0 : decode prog_8_method_37_code 0 = .ok (.aload_n 0, 1) := by decide +kernel
theorem d_Mo_none_1 : decode prog_8_method_37_code 1 = .ok (.aload_n 0, 1) := by decide +kernel
theorem d_Mo_none_2 : decode prog_8_method_37_code 2 = .ok (.getfield 106, 3) := by decide +kernel
theorem d_Mo_none_5 : decode prog_8_method_37_code 5 = .ok (.ifCond .eq 7, 3) := by decide +kernel
theorem d_Mo_none_8 : decode prog_8_method_37_code 8 = .ok (.iconst 0, 1) := by decide +kernel
theorem d_Mo_none_9 : decode prog_8_method_37_code 9 = .ok (.goto 4, 3) := by decide +kernel
theorem d_Mo_none_12 : decode prog_8_method_37_code 12 = .ok (.iconst 1, 1) := by decide +kernel
theorem d_Mo_none_13 : decode prog_8_method_37_code 13 = .ok (.putfield 103, 3) := by decide +kernel
theorem d_Mo_none_16 : decode prog_8_method_37_code 16 = .ok (.aload_n 0, 1) := by decide +kernel
theorem d_Mo_none_17 : decode prog_8_method_37_code 17 = .ok (.getfield 103, 3) := by decide +kernel
theorem d_Mo_none_20 : decode prog_8_method_37_code 20 = .ok (.ifCond .le 7, 3) := by decide +kernel
theorem d_Mo_none_23 : decode prog_8_method_37_code 23 = .ok (.iconst 1, 1) := by decide +kernel
theorem d_Mo_none_24 : decode prog_8_method_37_code 24 = .ok (.goto 4, 3) := by decide +kernel
theorem d_Mo_none_27 : decode prog_8_method_37_code 27 = .ok (.iconst 0, 1) := by decide +kernel
theorem d_Mo_none_28 : decode prog_8_method_37_code 28 = .ok (.ireturn, 1) := by decide +kernel
theorem d_Mo_worth_0 : decode prog_8_method_38_code 0 = .ok (.aload_n 0, 1) := by decide +kernel
theorem d_Mo_worth_1 : decode prog_8_method_38_code 1 = .ok (.invokevirtual 220, 3) := by decide +kernel
theorem d_Mo_worth_4 : decode prog_8_method_38_code 4 = .ok (.ifCond .eq 7, 3) := by decide +kernel
theorem d_Mo_worth_7 : decode prog_8_method_38_code 7 = .ok (.lconst 0, 1) := by decide +kernel
theorem d_Mo_worth_8 : decode prog_8_method_38_code 8 = .ok (.goto 7, 3) := by decide +kernel
theorem d_Mo_worth_11 : decode prog_8_method_38_code 11 = .ok (.aload_n 0, 1) := by decide +kernel
theorem d_Mo_worth_12 : decode prog_8_method_38_code 12 = .ok (.invokevirtual 199, 3) := by decide +kernel
theorem d_Mo_worth_15 : decode prog_8_method_38_code 15 = .ok (.lreturn, 1) := by decide +kernel
theorem d_Mo_logAt_0 : decode prog_8_method_39_code 0 = .ok (.iconst 0, 1) := by decide +kernel
theorem d_Mo_logAt_1 : decode prog_8_method_39_code 1 = .ok (.istore_n 2, 1) := by decide +kernel
theorem d_Mo_logAt_2 : decode prog_8_method_39_code 2 = .ok (.iconst (-1), 1) := by decide +kernel
theorem d_Mo_logAt_3 : decode prog_8_method_39_code 3 = .ok (.istore_n 3, 1) := by decide +kernel
theorem d_Mo_logAt_4 : decode prog_8_method_39_code 4 = .ok (.iconst 0, 1) := by decide +kernel
theorem d_Mo_logAt_5 : decode prog_8_method_39_code 5 = .ok (.istore 4, 2) := by decide +kernel
theorem d_Mo_logAt_7 : decode prog_8_method_39_code 7 = .ok (.iload 4, 2) := by decide +kernel
theorem d_Mo_logAt_9 : decode prog_8_method_39_code 9 = .ok (.bipush 81, 2) := by decide +kernel
theorem d_Mo_logAt_11 : decode prog_8_method_39_code 11 = .ok (.aload_n 0, 1) := by decide +kernel
theorem d_Mo_logAt_12 : decode prog_8_method_39_code 12 = .ok (.getfield 7, 3) := by decide +kernel
theorem d_Mo_logAt_15 : decode prog_8_method_39_code 15 = .ok (.imul, 1) := by decide +kernel
theorem d_Mo_logAt_16 : decode prog_8_method_39_code 16 = .ok (.if_icmp .ge 74, 3) := by decide +kernel
theorem d_Mo_logAt_19 : decode prog_8_method_39_code 19 = .ok (.iload 4, 2) := by decide +kernel
theorem d_Mo_logAt_21 : decode prog_8_method_39_code 21 = .ok (.bipush 81, 2) := by decide +kernel
theorem d_Mo_logAt_23 : decode prog_8_method_39_code 23 = .ok (.irem, 1) := by decide +kernel
theorem d_Mo_logAt_24 : decode prog_8_method_39_code 24 = .ok (.aload_n 0, 1) := by decide +kernel
theorem d_Mo_logAt_25 : decode prog_8_method_39_code 25 = .ok (.iload 4, 2) := by decide +kernel
theorem d_Mo_logAt_27 : decode prog_8_method_39_code 27 = .ok (.bipush 81, 2) := by decide +kernel
theorem d_Mo_logAt_29 : decode prog_8_method_39_code 29 = .ok (.idiv, 1) := by decide +kernel
theorem d_Mo_logAt_30 : decode prog_8_method_39_code 30 = .ok (.invokevirtual 131, 3) := by decide +kernel
theorem d_Mo_logAt_33 : decode prog_8_method_39_code 33 = .ok (.if_icmp .ge 18, 3) := by decide +kernel
theorem d_Mo_logAt_36 : decode prog_8_method_39_code 36 = .ok (.aload_n 0, 1) := by decide +kernel
theorem d_Mo_logAt_37 : decode prog_8_method_39_code 37 = .ok (.getfield 73, 3) := by decide +kernel
theorem d_Mo_logAt_40 : decode prog_8_method_39_code 40 = .ok (.iload 4, 2) := by decide +kernel
theorem d_Mo_logAt_42 : decode prog_8_method_39_code 42 = .ok (.iaload, 1) := by decide +kernel
theorem d_Mo_logAt_43 : decode prog_8_method_39_code 43 = .ok (.iconst 1, 1) := by decide +kernel
theorem d_Mo_logAt_44 : decode prog_8_method_39_code 44 = .ok (.if_icmp .ne 7, 3) := by decide +kernel
theorem d_Mo_logAt_47 : decode prog_8_method_39_code 47 = .ok (.iconst 1, 1) := by decide +kernel
theorem d_Mo_logAt_48 : decode prog_8_method_39_code 48 = .ok (.goto 4, 3) := by decide +kernel
theorem d_Mo_logAt_51 : decode prog_8_method_39_code 51 = .ok (.iconst 0, 1) := by decide +kernel
theorem d_Mo_logAt_52 : decode prog_8_method_39_code 52 = .ok (.istore 5, 2) := by decide +kernel
theorem d_Mo_logAt_54 : decode prog_8_method_39_code 54 = .ok (.iload 5, 2) := by decide +kernel
theorem d_Mo_logAt_56 : decode prog_8_method_39_code 56 = .ok (.ifCond .eq 13, 3) := by decide +kernel
theorem d_Mo_logAt_59 : decode prog_8_method_39_code 59 = .ok (.iload_n 2, 1) := by decide +kernel
theorem d_Mo_logAt_60 : decode prog_8_method_39_code 60 = .ok (.iload_n 1, 1) := by decide +kernel
theorem d_Mo_logAt_61 : decode prog_8_method_39_code 61 = .ok (.if_icmp .ne 8, 3) := by decide +kernel
theorem d_Mo_logAt_64 : decode prog_8_method_39_code 64 = .ok (.iload 4, 2) := by decide +kernel
theorem d_Mo_logAt_66 : decode prog_8_method_39_code 66 = .ok (.goto 4, 3) := by decide +kernel
theorem d_Mo_logAt_69 : decode prog_8_method_39_code 69 = .ok (.iload_n 3, 1) := by decide +kernel
theorem d_Mo_logAt_70 : decode prog_8_method_39_code 70 = .ok (.istore_n 3, 1) := by decide +kernel
theorem d_Mo_logAt_71 : decode prog_8_method_39_code 71 = .ok (.iload 5, 2) := by decide +kernel
theorem d_Mo_logAt_73 : decode prog_8_method_39_code 73 = .ok (.ifCond .eq 9, 3) := by decide +kernel
theorem d_Mo_logAt_76 : decode prog_8_method_39_code 76 = .ok (.iload_n 2, 1) := by decide +kernel
theorem d_Mo_logAt_77 : decode prog_8_method_39_code 77 = .ok (.iconst 1, 1) := by decide +kernel
theorem d_Mo_logAt_78 : decode prog_8_method_39_code 78 = .ok (.iadd, 1) := by decide +kernel
theorem d_Mo_logAt_79 : decode prog_8_method_39_code 79 = .ok (.goto 4, 3) := by decide +kernel
theorem d_Mo_logAt_82 : decode prog_8_method_39_code 82 = .ok (.iload_n 2, 1) := by decide +kernel
theorem d_Mo_logAt_83 : decode prog_8_method_39_code 83 = .ok (.istore_n 2, 1) := by decide +kernel
theorem d_Mo_logAt_84 : decode prog_8_method_39_code 84 = .ok (.iinc 4 1, 3) := by decide +kernel
theorem d_Mo_logAt_87 : decode prog_8_method_39_code 87 = .ok (.goto (-80), 3) := by decide +kernel
theorem d_Mo_logAt_90 : decode prog_8_method_39_code 90 = .ok (.iload_n 3, 1) := by decide +kernel
theorem d_Mo_logAt_91 : decode prog_8_method_39_code 91 = .ok (.ireturn, 1) := by decide +kernel
theorem d_Mo_log_0 : decode prog_8_method_40_code 0 = .ok (.aload_n 0, 1) := by decide +kernel
theorem d_Mo_log_1 : decode prog_8_method_40_code 1 = .ok (.invokevirtual 220, 3) := by decide +kernel
theorem d_Mo_log_4 : decode prog_8_method_40_code 4 = .ok (.ifCond .eq 5, 3) := by decide +kernel
theorem d_Mo_log_7 : decode prog_8_method_40_code 7 = .ok (.iconst 0, 1) := by decide +kernel
theorem d_Mo_log_8 : decode prog_8_method_40_code 8 = .ok (.ireturn, 1) := by decide +kernel
theorem d_Mo_log_9 : decode prog_8_method_40_code 9 = .ok (.aload_n 0, 1) := by decide +kernel
theorem d_Mo_log_10 : decode prog_8_method_40_code 10 = .ok (.invokevirtual 191, 3) := by decide +kernel
theorem d_Mo_log_13 : decode prog_8_method_40_code 13 = .ok (.istore_n 3, 1) := by decide +kernel
theorem d_Mo_log_14 : decode prog_8_method_40_code 14 = .ok (.aload_n 0, 1) := by decide +kernel
theorem d_Mo_log_15 : decode prog_8_method_40_code 15 = .ok (.iload_n 1, 1) := by decide +kernel
theorem d_Mo_log_16 : decode prog_8_method_40_code 16 = .ok (.iconst (-1), 1) := by decide +kernel
theorem d_Mo_log_17 : decode prog_8_method_40_code 17 = .ok (.if_icmp .lt 8, 3) := by decide +kernel
theorem d_Mo_log_20 : decode prog_8_method_40_code 20 = .ok (.iload_n 1, 1) := by decide +kernel
theorem d_Mo_log_21 : decode prog_8_method_40_code 21 = .ok (.iload_n 3, 1) := by decide +kernel
theorem d_Mo_log_22 : decode prog_8_method_40_code 22 = .ok (.if_icmp .lt 7, 3) := by decide +kernel
theorem d_Mo_log_25 : decode prog_8_method_40_code 25 = .ok (.iconst 2, 1) := by decide +kernel
theorem d_Mo_log_26 : decode prog_8_method_40_code 26 = .ok (.goto 20, 3) := by decide +kernel
theorem d_Mo_log_29 : decode prog_8_method_40_code 29 = .ok (.iload_n 2, 1) := by decide +kernel
theorem d_Mo_log_30 : decode prog_8_method_40_code 30 = .ok (.i2l, 1) := by decide +kernel
theorem d_Mo_log_31 : decode prog_8_method_40_code 31 = .ok (.lconst 0, 1) := by decide +kernel
theorem d_Mo_log_32 : decode prog_8_method_40_code 32 = .ok (.ldc2_w 223, 3) := by decide +kernel
theorem d_Mo_log_35 : decode prog_8_method_40_code 35 = .ok (.invokestatic 112, 3) := by decide +kernel
theorem d_Mo_log_38 : decode prog_8_method_40_code 38 = .ok (.ifCond .eq 7, 3) := by decide +kernel
theorem d_Mo_log_41 : decode prog_8_method_40_code 41 = .ok (.iconst 0, 1) := by decide +kernel
theorem d_Mo_log_42 : decode prog_8_method_40_code 42 = .ok (.goto 4, 3) := by decide +kernel
theorem d_Mo_log_45 : decode prog_8_method_40_code 45 = .ok (.iconst 3, 1) := by decide +kernel
theorem d_Mo_log_46 : decode prog_8_method_40_code 46 = .ok (.putfield 103, 3) := by decide +kernel
theorem d_Mo_log_49 : decode prog_8_method_40_code 49 = .ok (.aload_n 0, 1) := by decide +kernel
theorem d_Mo_log_50 : decode prog_8_method_40_code 50 = .ok (.getfield 103, 3) := by decide +kernel
theorem d_Mo_log_53 : decode prog_8_method_40_code 53 = .ok (.ifCond .gt 8, 3) := by decide +kernel
theorem d_Mo_log_56 : decode prog_8_method_40_code 56 = .ok (.iload_n 1, 1) := by decide +kernel
theorem d_Mo_log_57 : decode prog_8_method_40_code 57 = .ok (.iconst (-1), 1) := by decide +kernel
theorem d_Mo_log_58 : decode prog_8_method_40_code 58 = .ok (.if_icmp .ne 16, 3) := by decide +kernel
theorem d_Mo_log_61 : decode prog_8_method_40_code 61 = .ok (.aload_n 0, 1) := by decide +kernel
theorem d_Mo_log_62 : decode prog_8_method_40_code 62 = .ok (.getfield 103, 3) := by decide +kernel
theorem d_Mo_log_65 : decode prog_8_method_40_code 65 = .ok (.ifCond .le 7, 3) := by decide +kernel
theorem d_Mo_log_68 : decode prog_8_method_40_code 68 = .ok (.iconst 0, 1) := by decide +kernel
theorem d_Mo_log_69 : decode prog_8_method_40_code 69 = .ok (.goto 4, 3) := by decide +kernel
theorem d_Mo_log_72 : decode prog_8_method_40_code 72 = .ok (.iload_n 3, 1) := by decide +kernel
theorem d_Mo_log_73 : decode prog_8_method_40_code 73 = .ok (.ireturn, 1) := by decide +kernel
theorem d_Mo_log_74 : decode prog_8_method_40_code 74 = .ok (.aload_n 0, 1) := by decide +kernel
theorem d_Mo_log_75 : decode prog_8_method_40_code 75 = .ok (.iload_n 1, 1) := by decide +kernel
theorem d_Mo_log_76 : decode prog_8_method_40_code 76 = .ok (.invokevirtual 225, 3) := by decide +kernel
theorem d_Mo_log_79 : decode prog_8_method_40_code 79 = .ok (.istore 4, 2) := by decide +kernel
theorem d_Mo_log_81 : decode prog_8_method_40_code 81 = .ok (.iload_n 2, 1) := by decide +kernel
theorem d_Mo_log_82 : decode prog_8_method_40_code 82 = .ok (.ifCond .ne 11, 3) := by decide +kernel
theorem d_Mo_log_85 : decode prog_8_method_40_code 85 = .ok (.iload 4, 2) := by decide +kernel
theorem d_Mo_log_87 : decode prog_8_method_40_code 87 = .ok (.bipush 81, 2) := by decide +kernel
theorem d_Mo_log_89 : decode prog_8_method_40_code 89 = .ok (.idiv, 1) := by decide +kernel
theorem d_Mo_log_90 : decode prog_8_method_40_code 90 = .ok (.goto 70, 3) := by decide +kernel
theorem d_Mo_log_93 : decode prog_8_method_40_code 93 = .ok (.iload_n 2, 1) := by decide +kernel
theorem d_Mo_log_94 : decode prog_8_method_40_code 94 = .ok (.iconst 1, 1) := by decide +kernel
theorem d_Mo_log_95 : decode prog_8_method_40_code 95 = .ok (.if_icmp .ne 11, 3) := by decide +kernel
theorem d_Mo_log_98 : decode prog_8_method_40_code 98 = .ok (.iload 4, 2) := by decide +kernel
theorem d_Mo_log_100 : decode prog_8_method_40_code 100 = .ok (.bipush 81, 2) := by decide +kernel
theorem d_Mo_log_102 : decode prog_8_method_40_code 102 = .ok (.irem, 1) := by decide +kernel
theorem d_Mo_log_103 : decode prog_8_method_40_code 103 = .ok (.goto 57, 3) := by decide +kernel
theorem d_Mo_log_106 : decode prog_8_method_40_code 106 = .ok (.iload_n 2, 1) := by decide +kernel
theorem d_Mo_log_107 : decode prog_8_method_40_code 107 = .ok (.iconst 2, 1) := by decide +kernel
theorem d_Mo_log_108 : decode prog_8_method_40_code 108 = .ok (.if_icmp .ne 13, 3) := by decide +kernel
theorem d_Mo_log_111 : decode prog_8_method_40_code 111 = .ok (.aload_n 0, 1) := by decide +kernel
theorem d_Mo_log_112 : decode prog_8_method_40_code 112 = .ok (.getfield 76, 3) := by decide +kernel
theorem d_Mo_log_115 : decode prog_8_method_40_code 115 = .ok (.iload 4, 2) := by decide +kernel
theorem d_Mo_log_117 : decode prog_8_method_40_code 117 = .ok (.iaload, 1) := by decide +kernel
theorem d_Mo_log_118 : decode prog_8_method_40_code 118 = .ok (.goto 42, 3) := by decide +kernel
theorem d_Mo_log_121 : decode prog_8_method_40_code 121 = .ok (.iload_n 2, 1) := by decide +kernel
theorem d_Mo_log_122 : decode prog_8_method_40_code 122 = .ok (.iconst 3, 1) := by decide +kernel
theorem d_Mo_log_123 : decode prog_8_method_40_code 123 = .ok (.if_icmp .ne 13, 3) := by decide +kernel
theorem d_Mo_log_126 : decode prog_8_method_40_code 126 = .ok (.aload_n 0, 1) := by decide +kernel
theorem d_Mo_log_127 : decode prog_8_method_40_code 127 = .ok (.getfield 79, 3) := by decide +kernel
theorem d_Mo_log_130 : decode prog_8_method_40_code 130 = .ok (.iload 4, 2) := by decide +kernel
theorem d_Mo_log_132 : decode prog_8_method_40_code 132 = .ok (.iaload, 1) := by decide +kernel
theorem d_Mo_log_133 : decode prog_8_method_40_code 133 = .ok (.goto 27, 3) := by decide +kernel
theorem d_Mo_log_136 : decode prog_8_method_40_code 136 = .ok (.aload_n 0, 1) := by decide +kernel
theorem d_Mo_log_137 : decode prog_8_method_40_code 137 = .ok (.iload 4, 2) := by decide +kernel
theorem d_Mo_log_139 : decode prog_8_method_40_code 139 = .ok (.bipush 81, 2) := by decide +kernel
theorem d_Mo_log_141 : decode prog_8_method_40_code 141 = .ok (.idiv, 1) := by decide +kernel
theorem d_Mo_log_142 : decode prog_8_method_40_code 142 = .ok (.aload_n 0, 1) := by decide +kernel
theorem d_Mo_log_143 : decode prog_8_method_40_code 143 = .ok (.getfield 76, 3) := by decide +kernel
theorem d_Mo_log_146 : decode prog_8_method_40_code 146 = .ok (.iload 4, 2) := by decide +kernel
theorem d_Mo_log_148 : decode prog_8_method_40_code 148 = .ok (.iaload, 1) := by decide +kernel
theorem d_Mo_log_149 : decode prog_8_method_40_code 149 = .ok (.aload_n 0, 1) := by decide +kernel
theorem d_Mo_log_150 : decode prog_8_method_40_code 150 = .ok (.getfield 79, 3) := by decide +kernel
theorem d_Mo_log_153 : decode prog_8_method_40_code 153 = .ok (.iload 4, 2) := by decide +kernel
theorem d_Mo_log_155 : decode prog_8_method_40_code 155 = .ok (.iaload, 1) := by decide +kernel
theorem d_Mo_log_156 : decode prog_8_method_40_code 156 = .ok (.invokevirtual 158, 3) := by decide +kernel
theorem d_Mo_log_159 : decode prog_8_method_40_code 159 = .ok (.l2i, 1) := by decide +kernel
theorem d_Mo_log_160 : decode prog_8_method_40_code 160 = .ok (.ireturn, 1) := by decide +kernel
theorem d_Mo_isFuel_0 : decode prog_8_method_41_code 0 = .ok (.iload_n 1, 1) := by decide +kernel
theorem d_Mo_isFuel_1 : decode prog_8_method_41_code 1 = .ok (.bipush 81, 2) := by decide +kernel
theorem d_Mo_isFuel_3 : decode prog_8_method_41_code 3 = .ok (.irem, 1) := by decide +kernel
theorem d_Mo_isFuel_4 : decode prog_8_method_41_code 4 = .ok (.aload_n 0, 1) := by decide +kernel
theorem d_Mo_isFuel_5 : decode prog_8_method_41_code 5 = .ok (.iload_n 1, 1) := by decide +kernel
theorem d_Mo_isFuel_6 : decode prog_8_method_41_code 6 = .ok (.bipush 81, 2) := by decide +kernel
theorem d_Mo_isFuel_8 : decode prog_8_method_41_code 8 = .ok (.idiv, 1) := by decide +kernel
theorem d_Mo_isFuel_9 : decode prog_8_method_41_code 9 = .ok (.invokevirtual 131, 3) := by decide +kernel
theorem d_Mo_isFuel_12 : decode prog_8_method_41_code 12 = .ok (.if_icmp .ge 17, 3) := by decide +kernel
theorem d_Mo_isFuel_15 : decode prog_8_method_41_code 15 = .ok (.aload_n 0, 1) := by decide +kernel
theorem d_Mo_isFuel_16 : decode prog_8_method_41_code 16 = .ok (.getfield 73, 3) := by decide +kernel
theorem d_Mo_isFuel_19 : decode prog_8_method_41_code 19 = .ok (.iload_n 1, 1) := by decide +kernel
theorem d_Mo_isFuel_20 : decode prog_8_method_41_code 20 = .ok (.iaload, 1) := by decide +kernel
theorem d_Mo_isFuel_21 : decode prog_8_method_41_code 21 = .ok (.iconst 2, 1) := by decide +kernel
theorem d_Mo_isFuel_22 : decode prog_8_method_41_code 22 = .ok (.if_icmp .ne 7, 3) := by decide +kernel
theorem d_Mo_isFuel_25 : decode prog_8_method_41_code 25 = .ok (.iconst 1, 1) := by decide +kernel
theorem d_Mo_isFuel_26 : decode prog_8_method_41_code 26 = .ok (.goto 4, 3) := by decide +kernel
theorem d_Mo_isFuel_29 : decode prog_8_method_41_code 29 = .ok (.iconst 0, 1) := by decide +kernel
theorem d_Mo_isFuel_30 : decode prog_8_method_41_code 30 = .ok (.ireturn, 1) := by decide +kernel
theorem d_Mo_beginsFuel_0 : decode prog_8_method_42_code 0 = .ok (.aload_n 0, 1) := by decide +kernel
theorem d_Mo_beginsFuel_1 : decode prog_8_method_42_code 1 = .ok (.iload_n 1, 1) := by decide +kernel
theorem d_Mo_beginsFuel_2 : decode prog_8_method_42_code 2 = .ok (.invokevirtual 228, 3) := by decide +kernel
theorem d_Mo_beginsFuel_5 : decode prog_8_method_42_code 5 = .ok (.ifCond .eq 24, 3) := by decide +kernel
theorem d_Mo_beginsFuel_8 : decode prog_8_method_42_code 8 = .ok (.iload_n 1, 1) := by decide +kernel
theorem d_Mo_beginsFuel_9 : decode prog_8_method_42_code 9 = .ok (.bipush 81, 2) := by decide +kernel
theorem d_Mo_beginsFuel_11 : decode prog_8_method_42_code 11 = .ok (.irem, 1) := by decide +kernel
theorem d_Mo_beginsFuel_12 : decode prog_8_method_42_code 12 = .ok (.ifCond .eq 13, 3) := by decide +kernel
theorem d_Mo_beginsFuel_15 : decode prog_8_method_42_code 15 = .ok (.aload_n 0, 1) := by decide +kernel
theorem d_Mo_beginsFuel_16 : decode prog_8_method_42_code 16 = .ok (.iload_n 1, 1) := by decide +kernel
theorem d_Mo_beginsFuel_17 : decode prog_8_method_42_code 17 = .ok (.iconst 1, 1) := by decide +kernel
theorem d_Mo_beginsFuel_18 : decode prog_8_method_42_code 18 = .ok (.isub, 1) := by decide +kernel
theorem d_Mo_beginsFuel_19 : decode prog_8_method_42_code 19 = .ok (.invokevirtual 228, 3) := by decide +kernel
theorem d_Mo_beginsFuel_22 : decode prog_8_method_42_code 22 = .ok (.ifCond .ne 7, 3) := by decide +kernel
theorem d_Mo_beginsFuel_25 : decode prog_8_method_42_code 25 = .ok (.iconst 1, 1) := by decide +kernel
theorem d_Mo_beginsFuel_26 : decode prog_8_method_42_code 26 = .ok (.goto 4, 3) := by decide +kernel
theorem d_Mo_beginsFuel_29 : decode prog_8_method_42_code 29 = .ok (.iconst 0, 1) := by decide +kernel
theorem d_Mo_beginsFuel_30 : decode prog_8_method_42_code 30 = .ok (.ireturn, 1) := by decide +kernel
theorem d_Mo_fuelCount_0 : decode prog_8_method_43_code 0 = .ok (.iconst 0, 1) := by decide +kernel
theorem d_Mo_fuelCount_1 : decode prog_8_method_43_code 1 = .ok (.istore_n 1, 1) := by decide +kernel
theorem d_Mo_fuelCount_2 : decode prog_8_method_43_code 2 = .ok (.iconst 0, 1) := by decide +kernel
theorem d_Mo_fuelCount_3 : decode prog_8_method_43_code 3 = .ok (.istore_n 2, 1) := by decide +kernel
theorem d_Mo_fuelCount_4 : decode prog_8_method_43_code 4 = .ok (.iload_n 2, 1) := by decide +kernel
theorem d_Mo_fuelCount_5 : decode prog_8_method_43_code 5 = .ok (.bipush 81, 2) := by decide +kernel
theorem d_Mo_fuelCount_7 : decode prog_8_method_43_code 7 = .ok (.aload_n 0, 1) := by decide +kernel
theorem d_Mo_fuelCount_8 : decode prog_8_method_43_code 8 = .ok (.getfield 7, 3) := by decide +kernel
theorem d_Mo_fuelCount_11 : decode prog_8_method_43_code 11 = .ok (.imul, 1) := by decide +kernel
theorem d_Mo_fuelCount_12 : decode prog_8_method_43_code 12 = .ok (.if_icmp .ge 25, 3) := by decide +kernel
theorem d_Mo_fuelCount_15 : decode prog_8_method_43_code 15 = .ok (.aload_n 0, 1) := by decide +kernel
theorem d_Mo_fuelCount_16 : decode prog_8_method_43_code 16 = .ok (.iload_n 2, 1) := by decide +kernel
theorem d_Mo_fuelCount_17 : decode prog_8_method_43_code 17 = .ok (.invokevirtual 231, 3) := by decide +kernel
theorem d_Mo_fuelCount_20 : decode prog_8_method_43_code 20 = .ok (.ifCond .eq 9, 3) := by decide +kernel
theorem d_Mo_fuelCount_23 : decode prog_8_method_43_code 23 = .ok (.iload_n 1, 1) := by decide +kernel
theorem d_Mo_fuelCount_24 : decode prog_8_method_43_code 24 = .ok (.iconst 1, 1) := by decide +kernel
theorem d_Mo_fuelCount_25 : decode prog_8_method_43_code 25 = .ok (.iadd, 1) := by decide +kernel
theorem d_Mo_fuelCount_26 : decode prog_8_method_43_code 26 = .ok (.goto 4, 3) := by decide +kernel
theorem d_Mo_fuelCount_29 : decode prog_8_method_43_code 29 = .ok (.iload_n 1, 1) := by decide +kernel
theorem d_Mo_fuelCount_30 : decode prog_8_method_43_code 30 = .ok (.istore_n 1, 1) := by decide +kernel
theorem d_Mo_fuelCount_31 : decode prog_8_method_43_code 31 = .ok (.iinc 2 1, 3) := by decide +kernel
theorem d_Mo_fuelCount_34 : decode prog_8_method_43_code 34 = .ok (.goto (-30), 3) := by decide +kernel
theorem d_Mo_fuelCount_37 : decode prog_8_method_43_code 37 = .ok (.iload_n 1, 1) := by decide +kernel
theorem d_Mo_fuelCount_38 : decode prog_8_method_43_code 38 = .ok (.ireturn, 1) := by decide +kernel
theorem d_Mo_fuel_0 : decode prog_8_method_44_code 0 = .ok (.aload_n 0, 1) := by decide +kernel
theorem d_Mo_fuel_1 : decode prog_8_method_44_code 1 = .ok (.invokevirtual 220, 3) := by decide +kernel
theorem d_Mo_fuel_4 : decode prog_8_method_44_code 4 = .ok (.ifCond .eq 5, 3) := by decide +kernel
theorem d_Mo_fuel_7 : decode prog_8_method_44_code 7 = .ok (.iconst 0, 1) := by decide +kernel
theorem d_Mo_fuel_8 : decode prog_8_method_44_code 8 = .ok (.ireturn, 1) := by decide +kernel
theorem d_Mo_fuel_9 : decode prog_8_method_44_code 9 = .ok (.aload_n 0, 1) := by decide +kernel
theorem d_Mo_fuel_10 : decode prog_8_method_44_code 10 = .ok (.invokevirtual 234, 3) := by decide +kernel
theorem d_Mo_fuel_13 : decode prog_8_method_44_code 13 = .ok (.istore_n 3, 1) := by decide +kernel
theorem d_Mo_fuel_14 : decode prog_8_method_44_code 14 = .ok (.aload_n 0, 1) := by decide +kernel
theorem d_Mo_fuel_15 : decode prog_8_method_44_code 15 = .ok (.iload_n 1, 1) := by decide +kernel
theorem d_Mo_fuel_16 : decode prog_8_method_44_code 16 = .ok (.iconst (-1), 1) := by decide +kernel
theorem d_Mo_fuel_17 : decode prog_8_method_44_code 17 = .ok (.if_icmp .lt 8, 3) := by decide +kernel
theorem d_Mo_fuel_20 : decode prog_8_method_44_code 20 = .ok (.iload_n 1, 1) := by decide +kernel
theorem d_Mo_fuel_21 : decode prog_8_method_44_code 21 = .ok (.iload_n 3, 1) := by decide +kernel
theorem d_Mo_fuel_22 : decode prog_8_method_44_code 22 = .ok (.if_icmp .lt 7, 3) := by decide +kernel
theorem d_Mo_fuel_25 : decode prog_8_method_44_code 25 = .ok (.iconst 2, 1) := by decide +kernel
