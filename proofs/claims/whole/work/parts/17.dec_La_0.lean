theorem d_La_cell_0 : decode method_2_code 0 = .ok (.iload_n 1, 1) := by decide +kernel
theorem d_La_cell_1 : decode method_2_code 1 = .ok (.aload_n 0, 1) := by decide +kernel
theorem d_La_cell_2 : decode method_2_code 2 = .ok (.arraylength, 1) := by decide +kernel
theorem d_La_cell_3 : decode method_2_code 3 = .ok (.if_icmp .ge 9, 3) := by decide +kernel
theorem d_La_cell_6 : decode method_2_code 6 = .ok (.aload_n 0, 1) := by decide +kernel
theorem d_La_cell_7 : decode method_2_code 7 = .ok (.iload_n 1, 1) := by decide +kernel
theorem d_La_cell_8 : decode method_2_code 8 = .ok (.iaload, 1) := by decide +kernel
theorem d_La_cell_9 : decode method_2_code 9 = .ok (.goto 4, 3) := by decide +kernel
theorem d_La_cell_12 : decode method_2_code 12 = .ok (.iconst 0, 1) := by decide +kernel
theorem d_La_cell_13 : decode method_2_code 13 = .ok (.ireturn, 1) := by decide +kernel
theorem d_La_stem_0 : decode method_3_code 0 = .ok (.aload 4, 2) := by decide +kernel
theorem d_La_stem_2 : decode method_3_code 2 = .ok (.iconst 0, 1) := by decide +kernel
theorem d_La_stem_3 : decode method_3_code 3 = .ok (.aload_n 0, 1) := by decide +kernel
theorem d_La_stem_4 : decode method_3_code 4 = .ok (.iload_n 1, 1) := by decide +kernel
theorem d_La_stem_5 : decode method_3_code 5 = .ok (.iload_n 2, 1) := by decide +kernel
theorem d_La_stem_6 : decode method_3_code 6 = .ok (.iload_n 3, 1) := by decide +kernel
theorem d_La_stem_7 : decode method_3_code 7 = .ok (.invokevirtual 7, 3) := by decide +kernel
theorem d_La_stem_10 : decode method_3_code 10 = .ok (.ifCond .eq 7, 3) := by decide +kernel
theorem d_La_stem_13 : decode method_3_code 13 = .ok (.lconst 1, 1) := by decide +kernel
theorem d_La_stem_14 : decode method_3_code 14 = .ok (.goto 4, 3) := by decide +kernel
theorem d_La_stem_17 : decode method_3_code 17 = .ok (.lconst 0, 1) := by decide +kernel
theorem d_La_stem_18 : decode method_3_code 18 = .ok (.lastore, 1) := by decide +kernel
theorem d_La_stem_19 : decode method_3_code 19 = .ok (.goto 11, 3) := by decide +kernel
theorem d_La_stem_22 : decode method_3_code 22 = .ok (.astore 5, 2) := by decide +kernel
theorem d_La_stem_24 : decode method_3_code 24 = .ok (.iconst 1, 1) := by decide +kernel
theorem d_La_stem_25 : decode method_3_code 25 = .ok (.ireturn, 1) := by decide +kernel
theorem d_La_stem_26 : decode method_3_code 26 = .ok (.astore 5, 2) := by decide +kernel
theorem d_La_stem_28 : decode method_3_code 28 = .ok (.iconst 2, 1) := by decide +kernel
theorem d_La_stem_29 : decode method_3_code 29 = .ok (.ireturn, 1) := by decide +kernel
theorem d_La_stem_30 : decode method_3_code 30 = .ok (.iconst 0, 1) := by decide +kernel
theorem d_La_stem_31 : decode method_3_code 31 = .ok (.ireturn, 1) := by decide +kernel
theorem d_La_fault_0 : decode method_4_code 0 = .ok (.aload 4, 2) := by decide +kernel
theorem d_La_fault_2 : decode method_4_code 2 = .ok (.iconst 0, 1) := by decide +kernel
theorem d_La_fault_3 : decode method_4_code 3 = .ok (.aload_n 0, 1) := by decide +kernel
theorem d_La_fault_4 : decode method_4_code 4 = .ok (.iload_n 1, 1) := by decide +kernel
theorem d_La_fault_5 : decode method_4_code 5 = .ok (.iload_n 2, 1) := by decide +kernel
theorem d_La_fault_6 : decode method_4_code 6 = .ok (.iload_n 3, 1) := by decide +kernel
theorem d_La_fault_7 : decode method_4_code 7 = .ok (.invokevirtual 17, 3) := by decide +kernel
theorem d_La_fault_10 : decode method_4_code 10 = .ok (.ifCond .eq 7, 3) := by decide +kernel
theorem d_La_fault_13 : decode method_4_code 13 = .ok (.lconst 1, 1) := by decide +kernel
theorem d_La_fault_14 : decode method_4_code 14 = .ok (.goto 4, 3) := by decide +kernel
theorem d_La_fault_17 : decode method_4_code 17 = .ok (.lconst 0, 1) := by decide +kernel
theorem d_La_fault_18 : decode method_4_code 18 = .ok (.lastore, 1) := by decide +kernel
theorem d_La_fault_19 : decode method_4_code 19 = .ok (.goto 11, 3) := by decide +kernel
theorem d_La_fault_22 : decode method_4_code 22 = .ok (.astore 5, 2) := by decide +kernel
theorem d_La_fault_24 : decode method_4_code 24 = .ok (.iconst 1, 1) := by decide +kernel
theorem d_La_fault_25 : decode method_4_code 25 = .ok (.ireturn, 1) := by decide +kernel
theorem d_La_fault_26 : decode method_4_code 26 = .ok (.astore 5, 2) := by decide +kernel
theorem d_La_fault_28 : decode method_4_code 28 = .ok (.iconst 2, 1) := by decide +kernel
theorem d_La_fault_29 : decode method_4_code 29 = .ok (.ireturn, 1) := by decide +kernel
theorem d_La_fault_30 : decode method_4_code 30 = .ok (.iconst 0, 1) := by decide +kernel
theorem d_La_fault_31 : decode method_4_code 31 = .ok (.ireturn, 1) := by decide +kernel
theorem d_La_stems_0 : decode method_5_code 0 = .ok (.aload_n 1, 1) := by decide +kernel
theorem d_La_stems_1 : decode method_5_code 1 = .ok (.iconst 0, 1) := by decide +kernel
theorem d_La_stems_2 : decode method_5_code 2 = .ok (.aload_n 0, 1) := by decide +kernel
theorem d_La_stems_3 : decode method_5_code 3 = .ok (.invokevirtual 20, 3) := by decide +kernel
theorem d_La_stems_6 : decode method_5_code 6 = .ok (.i2l, 1) := by decide +kernel
theorem d_La_stems_7 : decode method_5_code 7 = .ok (.lastore, 1) := by decide +kernel
theorem d_La_stems_8 : decode method_5_code 8 = .ok (.goto 6, 3) := by decide +kernel
theorem d_La_stems_11 : decode method_5_code 11 = .ok (.astore_n 2, 1) := by decide +kernel
theorem d_La_stems_12 : decode method_5_code 12 = .ok (.iconst 1, 1) := by decide +kernel
theorem d_La_stems_13 : decode method_5_code 13 = .ok (.ireturn, 1) := by decide +kernel
theorem d_La_stems_14 : decode method_5_code 14 = .ok (.iconst 0, 1) := by decide +kernel
theorem d_La_stems_15 : decode method_5_code 15 = .ok (.ireturn, 1) := by decide +kernel
theorem d_La_product_0 : decode method_6_code 0 = .ok (.aload 7, 2) := by decide +kernel
theorem d_La_product_2 : decode method_6_code 2 = .ok (.iconst 0, 1) := by decide +kernel
theorem d_La_product_3 : decode method_6_code 3 = .ok (.aload_n 0, 1) := by decide +kernel
theorem d_La_product_4 : decode method_6_code 4 = .ok (.iload_n 1, 1) := by decide +kernel
theorem d_La_product_5 : decode method_6_code 5 = .ok (.iload_n 2, 1) := by decide +kernel
theorem d_La_product_6 : decode method_6_code 6 = .ok (.iload_n 3, 1) := by decide +kernel
theorem d_La_product_7 : decode method_6_code 7 = .ok (.iload 4, 2) := by decide +kernel
theorem d_La_product_9 : decode method_6_code 9 = .ok (.lload 5, 2) := by decide +kernel
theorem d_La_product_11 : decode method_6_code 11 = .ok (.invokevirtual 24, 3) := by decide +kernel
theorem d_La_product_14 : decode method_6_code 14 = .ok (.i2l, 1) := by decide +kernel
theorem d_La_product_15 : decode method_6_code 15 = .ok (.lastore, 1) := by decide +kernel
theorem d_La_product_16 : decode method_6_code 16 = .ok (.goto 11, 3) := by decide +kernel
theorem d_La_product_19 : decode method_6_code 19 = .ok (.astore 8, 2) := by decide +kernel
theorem d_La_product_21 : decode method_6_code 21 = .ok (.iconst 1, 1) := by decide +kernel
theorem d_La_product_22 : decode method_6_code 22 = .ok (.ireturn, 1) := by decide +kernel
theorem d_La_product_23 : decode method_6_code 23 = .ok (.astore 8, 2) := by decide +kernel
theorem d_La_product_25 : decode method_6_code 25 = .ok (.iconst 2, 1) := by decide +kernel
theorem d_La_product_26 : decode method_6_code 26 = .ok (.ireturn, 1) := by decide +kernel
theorem d_La_product_27 : decode method_6_code 27 = .ok (.iconst 0, 1) := by decide +kernel
theorem d_La_product_28 : decode method_6_code 28 = .ok (.ireturn, 1) := by decide +kernel
theorem d_La_bars_0 : decode method_7_code 0 = .ok (.aload_n 3, 1) := by decide +kernel
theorem d_La_bars_1 : decode method_7_code 1 = .ok (.iconst 0, 1) := by decide +kernel
theorem d_La_bars_2 : decode method_7_code 2 = .ok (.aload_n 0, 1) := by decide +kernel
theorem d_La_bars_3 : decode method_7_code 3 = .ok (.iload_n 1, 1) := by decide +kernel
theorem d_La_bars_4 : decode method_7_code 4 = .ok (.iload_n 2, 1) := by decide +kernel
theorem d_La_bars_5 : decode method_7_code 5 = .ok (.invokevirtual 28, 3) := by decide +kernel
theorem d_La_bars_8 : decode method_7_code 8 = .ok (.ifCond .eq 7, 3) := by decide +kernel
theorem d_La_bars_11 : decode method_7_code 11 = .ok (.lconst 1, 1) := by decide +kernel
theorem d_La_bars_12 : decode method_7_code 12 = .ok (.goto 4, 3) := by decide +kernel
theorem d_La_bars_15 : decode method_7_code 15 = .ok (.lconst 0, 1) := by decide +kernel
theorem d_La_bars_16 : decode method_7_code 16 = .ok (.lastore, 1) := by decide +kernel
theorem d_La_bars_17 : decode method_7_code 17 = .ok (.goto 11, 3) := by decide +kernel
theorem d_La_bars_20 : decode method_7_code 20 = .ok (.astore 4, 2) := by decide +kernel
theorem d_La_bars_22 : decode method_7_code 22 = .ok (.iconst 1, 1) := by decide +kernel
theorem d_La_bars_23 : decode method_7_code 23 = .ok (.ireturn, 1) := by decide +kernel
theorem d_La_bars_24 : decode method_7_code 24 = .ok (.astore 4, 2) := by decide +kernel
theorem d_La_bars_26 : decode method_7_code 26 = .ok (.iconst 2, 1) := by decide +kernel
theorem d_La_bars_27 : decode method_7_code 27 = .ok (.ireturn, 1) := by decide +kernel
theorem d_La_bars_28 : decode method_7_code 28 = .ok (.iconst 0, 1) := by decide +kernel
theorem d_La_bars_29 : decode method_7_code 29 = .ok (.ireturn, 1) := by decide +kernel
theorem d_La_force_0 : decode method_8_code 0 = .ok (.aload_n 2, 1) := by decide +kernel
theorem d_La_force_1 : decode method_8_code 1 = .ok (.iconst 0, 1) := by decide +kernel
theorem d_La_force_2 : decode method_8_code 2 = .ok (.aload_n 0, 1) := by decide +kernel
theorem d_La_force_3 : decode method_8_code 3 = .ok (.iload_n 1, 1) := by decide +kernel
theorem d_La_force_4 : decode method_8_code 4 = .ok (.invokevirtual 34, 3) := by decide +kernel
theorem d_La_force_7 : decode method_8_code 7 = .ok (.ifCond .eq 7, 3) := by decide +kernel
theorem d_La_force_10 : decode method_8_code 10 = .ok (.lconst 1, 1) := by decide +kernel
theorem d_La_force_11 : decode method_8_code 11 = .ok (.goto 4, 3) := by decide +kernel
theorem d_La_force_14 : decode method_8_code 14 = .ok (.lconst 0, 1) := by decide +kernel
theorem d_La_force_15 : decode method_8_code 15 = .ok (.lastore, 1) := by decide +kernel
theorem d_La_force_16 : decode method_8_code 16 = .ok (.goto 6, 3) := by decide +kernel
theorem d_La_force_19 : decode method_8_code 19 = .ok (.astore_n 3, 1) := by decide +kernel
theorem d_La_force_20 : decode method_8_code 20 = .ok (.iconst 1, 1) := by decide +kernel
theorem d_La_force_21 : decode method_8_code 21 = .ok (.ireturn, 1) := by decide +kernel
theorem d_La_force_22 : decode method_8_code 22 = .ok (.iconst 0, 1) := by decide +kernel
theorem d_La_force_23 : decode method_8_code 23 = .ok (.ireturn, 1) := by decide +kernel
theorem d_La_margin_0 : decode method_9_code 0 = .ok (.aload_n 2, 1) := by decide +kernel
theorem d_La_margin_1 : decode method_9_code 1 = .ok (.iconst 0, 1) := by decide +kernel
theorem d_La_margin_2 : decode method_9_code 2 = .ok (.aload_n 0, 1) := by decide +kernel
theorem d_La_margin_3 : decode method_9_code 3 = .ok (.iload_n 1, 1) := by decide +kernel
theorem d_La_margin_4 : decode method_9_code 4 = .ok (.invokevirtual 38, 3) := by decide +kernel
theorem d_La_margin_7 : decode method_9_code 7 = .ok (.ifCond .eq 7, 3) := by decide +kernel
theorem d_La_margin_10 : decode method_9_code 10 = .ok (.lconst 1, 1) := by decide +kernel
theorem d_La_margin_11 : decode method_9_code 11 = .ok (.goto 4, 3) := by decide +kernel
theorem d_La_margin_14 : decode method_9_code 14 = .ok (.lconst 0, 1) := by decide +kernel
theorem d_La_margin_15 : decode method_9_code 15 = .ok (.lastore, 1) := by decide +kernel
theorem d_La_margin_16 : decode method_9_code 16 = .ok (.goto 6, 3) := by decide +kernel
theorem d_La_margin_19 : decode method_9_code 19 = .ok (.astore_n 3, 1) := by decide +kernel
theorem d_La_margin_20 : decode method_9_code 20 = .ok (.iconst 1, 1) := by decide +kernel
theorem d_La_margin_21 : decode method_9_code 21 = .ok (.ireturn, 1) := by decide +kernel
theorem d_La_margin_22 : decode method_9_code 22 = .ok (.iconst 0, 1) := by decide +kernel
theorem d_La_margin_23 : decode method_9_code 23 = .ok (.ireturn, 1) := by decide +kernel
theorem d_La_saw_0 : decode method_10_code 0 = .ok (.aload_n 2, 1) := by decide +kernel
theorem d_La_saw_1 : decode method_10_code 1 = .ok (.iconst 0, 1) := by decide +kernel
theorem d_La_saw_2 : decode method_10_code 2 = .ok (.aload_n 0, 1) := by decide +kernel
theorem d_La_saw_3 : decode method_10_code 3 = .ok (.iload_n 1, 1) := by decide +kernel
theorem d_La_saw_4 : decode method_10_code 4 = .ok (.invokevirtual 41, 3) := by decide +kernel
theorem d_La_saw_7 : decode method_10_code 7 = .ok (.ifCond .eq 7, 3) := by decide +kernel
theorem d_La_saw_10 : decode method_10_code 10 = .ok (.lconst 1, 1) := by decide +kernel
theorem d_La_saw_11 : decode method_10_code 11 = .ok (.goto 4, 3) := by decide +kernel
theorem d_La_saw_14 : decode method_10_code 14 = .ok (.lconst 0, 1) := by decide +kernel
theorem d_La_saw_15 : decode method_10_code 15 = .ok (.lastore, 1) := by decide +kernel
theorem d_La_saw_16 : decode method_10_code 16 = .ok (.goto 6, 3) := by decide +kernel
theorem d_La_saw_19 : decode method_10_code 19 = .ok (.astore_n 3, 1) := by decide +kernel
theorem d_La_saw_20 : decode method_10_code 20 = .ok (.iconst 1, 1) := by decide +kernel
theorem d_La_saw_21 : decode method_10_code 21 = .ok (.ireturn, 1) := by decide +kernel
theorem d_La_saw_22 : decode method_10_code 22 = .ok (.iconst 0, 1) := by decide +kernel
theorem d_La_saw_23 : decode method_10_code 23 = .ok (.ireturn, 1) := by decide +kernel
theorem d_La_limit_0 : decode method_11_code 0 = .ok (.aload 4, 2) := by decide +kernel
theorem d_La_limit_2 : decode method_11_code 2 = .ok (.iconst 0, 1) := by decide +kernel
theorem d_La_limit_3 : decode method_11_code 3 = .ok (.aload_n 0, 1) := by decide +kernel
theorem d_La_limit_4 : decode method_11_code 4 = .ok (.iload_n 1, 1) := by decide +kernel
theorem d_La_limit_5 : decode method_11_code 5 = .ok (.lload_n 2, 1) := by decide +kernel
theorem d_La_limit_6 : decode method_11_code 6 = .ok (.invokevirtual 44, 3) := by decide +kernel
theorem d_La_limit_9 : decode method_11_code 9 = .ok (.ifCond .eq 7, 3) := by decide +kernel
theorem d_La_limit_12 : decode method_11_code 12 = .ok (.lconst 1, 1) := by decide +kernel
theorem d_La_limit_13 : decode method_11_code 13 = .ok (.goto 4, 3) := by decide +kernel
theorem d_La_limit_16 : decode method_11_code 16 = .ok (.lconst 0, 1) := by decide +kernel
theorem d_La_limit_17 : decode method_11_code 17 = .ok (.lastore, 1) := by decide +kernel
theorem d_La_limit_18 : decode method_11_code 18 = .ok (.goto 11, 3) := by decide +kernel
theorem d_La_limit_21 : decode method_11_code 21 = .ok (.astore 5, 2) := by decide +kernel
theorem d_La_limit_23 : decode method_11_code 23 = .ok (.iconst 1, 1) := by decide +kernel
theorem d_La_limit_24 : decode method_11_code 24 = .ok (.ireturn, 1) := by decide +kernel
theorem d_La_limit_25 : decode method_11_code 25 = .ok (.astore 5, 2) := by decide +kernel
theorem d_La_limit_27 : decode method_11_code 27 = .ok (.iconst 2, 1) := by decide +kernel
theorem d_La_limit_28 : decode method_11_code 28 = .ok (.ireturn, 1) := by decide +kernel
theorem d_La_limit_29 : decode method_11_code 29 = .ok (.iconst 0, 1) := by decide +kernel
theorem d_La_limit_30 : decode method_11_code 30 = .ok (.ireturn, 1) := by decide +kernel
theorem d_La_wish_0 : decode method_12_code 0 = .ok (.aload 5, 2) := by decide +kernel
theorem d_La_wish_2 : decode method_12_code 2 = .ok (.iconst 0, 1) := by decide +kernel
theorem d_La_wish_3 : decode method_12_code 3 = .ok (.aload_n 0, 1) := by decide +kernel
theorem d_La_wish_4 : decode method_12_code 4 = .ok (.iload_n 1, 1) := by decide +kernel
theorem d_La_wish_5 : decode method_12_code 5 = .ok (.iload_n 2, 1) := by decide +kernel
theorem d_La_wish_6 : decode method_12_code 6 = .ok (.lload_n 3, 1) := by decide +kernel
theorem d_La_wish_7 : decode method_12_code 7 = .ok (.invokevirtual 48, 3) := by decide +kernel
theorem d_La_wish_10 : decode method_12_code 10 = .ok (.ifCond .eq 7, 3) := by decide +kernel
theorem d_La_wish_13 : decode method_12_code 13 = .ok (.lconst 1, 1) := by decide +kernel
theorem d_La_wish_14 : decode method_12_code 14 = .ok (.goto 4, 3) := by decide +kernel
theorem d_La_wish_17 : decode method_12_code 17 = .ok (.lconst 0, 1) := by decide +kernel
theorem d_La_wish_18 : decode method_12_code 18 = .ok (.lastore, 1) := by decide +kernel
theorem d_La_wish_19 : decode method_12_code 19 = .ok (.goto 11, 3) := by decide +kernel
theorem d_La_wish_22 : decode method_12_code 22 = .ok (.astore 6, 2) := by decide +kernel
theorem d_La_wish_24 : decode method_12_code 24 = .ok (.iconst 1, 1) := by decide +kernel
theorem d_La_wish_25 : decode method_12_code 25 = .ok (.ireturn, 1) := by decide +kernel
theorem d_La_wish_26 : decode method_12_code 26 = .ok (.astore 6, 2) := by decide +kernel
theorem d_La_wish_28 : decode method_12_code 28 = .ok (.iconst 2, 1) := by decide +kernel
theorem d_La_wish_29 : decode method_12_code 29 = .ok (.ireturn, 1) := by decide +kernel
theorem d_La_wish_30 : decode method_12_code 30 = .ok (.iconst 0, 1) := by decide +kernel
theorem d_La_wish_31 : decode method_12_code 31 = .ok (.ireturn, 1) := by decide +kernel
theorem d_La_priced_0 : decode method_13_code 0 = .ok (.aload_n 2, 1) := by decide +kernel
theorem d_La_priced_1 : decode method_13_code 1 = .ok (.iconst 0, 1) := by decide +kernel
theorem d_La_priced_2 : decode method_13_code 2 = .ok (.aload_n 0, 1) := by decide +kernel
theorem d_La_priced_3 : decode method_13_code 3 = .ok (.iload_n 1, 1) := by decide +kernel
theorem d_La_priced_4 : decode method_13_code 4 = .ok (.invokevirtual 52, 3) := by decide +kernel
theorem d_La_priced_7 : decode method_13_code 7 = .ok (.i2l, 1) := by decide +kernel
theorem d_La_priced_8 : decode method_13_code 8 = .ok (.lastore, 1) := by decide +kernel
theorem d_La_priced_9 : decode method_13_code 9 = .ok (.goto 6, 3) := by decide +kernel
theorem d_La_priced_12 : decode method_13_code 12 = .ok (.astore_n 3, 1) := by decide +kernel
theorem d_La_priced_13 : decode method_13_code 13 = .ok (.iconst 1, 1) := by decide +kernel
theorem d_La_priced_14 : decode method_13_code 14 = .ok (.ireturn, 1) := by decide +kernel
theorem d_La_priced_15 : decode method_13_code 15 = .ok (.iconst 0, 1) := by decide +kernel
theorem d_La_priced_16 : decode method_13_code 16 = .ok (.ireturn, 1) := by decide +kernel
theorem d_La_worth_0 : decode method_14_code 0 = .ok (.aload_n 1, 1) := by decide +kernel
theorem d_La_worth_1 : decode method_14_code 1 = .ok (.iconst 0, 1) := by decide +kernel
theorem d_La_worth_2 : decode method_14_code 2 = .ok (.aload_n 0, 1) := by decide +kernel
theorem d_La_worth_3 : decode method_14_code 3 = .ok (.invokevirtual 56, 3) := by decide +kernel
theorem d_La_worth_6 : decode method_14_code 6 = .ok (.lastore, 1) := by decide +kernel
theorem d_La_worth_7 : decode method_14_code 7 = .ok (.goto 6, 3) := by decide +kernel
theorem d_La_worth_10 : decode method_14_code 10 = .ok (.astore_n 2, 1) := by decide +kernel
theorem d_La_worth_11 : decode method_14_code 11 = .ok (.iconst 1, 1) := by decide +kernel
theorem d_La_worth_12 : decode method_14_code 12 = .ok (.ireturn, 1) := by decide +kernel
theorem d_La_worth_13 : decode method_14_code 13 = .ok (.iconst 0, 1) := by decide +kernel
theorem d_La_worth_14 : decode method_14_code 14 = .ok (.ireturn, 1) := by decide +kernel
theorem d_La_log_0 : decode method_15_code 0 = .ok (.aload_n 3, 1) := by decide +kernel
theorem d_La_log_1 : decode method_15_code 1 = .ok (.iconst 0, 1) := by decide +kernel
theorem d_La_log_2 : decode method_15_code 2 = .ok (.aload_n 0, 1) := by decide +kernel
theorem d_La_log_3 : decode method_15_code 3 = .ok (.iload_n 1, 1) := by decide +kernel
theorem d_La_log_4 : decode method_15_code 4 = .ok (.iload_n 2, 1) := by decide +kernel
theorem d_La_log_5 : decode method_15_code 5 = .ok (.invokevirtual 60, 3) := by decide +kernel
theorem d_La_log_8 : decode method_15_code 8 = .ok (.i2l, 1) := by decide +kernel
theorem d_La_log_9 : decode method_15_code 9 = .ok (.lastore, 1) := by decide +kernel
theorem d_La_log_10 : decode method_15_code 10 = .ok (.goto 15, 3) := by decide +kernel
theorem d_La_log_13 : decode method_15_code 13 = .ok (.astore 4, 2) := by decide +kernel
theorem d_La_log_15 : decode method_15_code 15 = .ok (.iconst 1, 1) := by decide +kernel
theorem d_La_log_16 : decode method_15_code 16 = .ok (.ireturn, 1) := by decide +kernel
theorem d_La_log_17 : decode method_15_code 17 = .ok (.astore 4, 2) := by decide +kernel
theorem d_La_log_19 : decode method_15_code 19 = .ok (.iconst 2, 1) := by decide +kernel
theorem d_La_log_20 : decode method_15_code 20 = .ok (.ireturn, 1) := by decide +kernel
theorem d_La_log_21 : decode method_15_code 21 = .ok (.astore 4, 2) := by decide +kernel
theorem d_La_log_23 : decode method_15_code 23 = .ok (.iconst 3, 1) := by decide +kernel
theorem d_La_log_24 : decode method_15_code 24 = .ok (.ireturn, 1) := by decide +kernel
theorem d_La_log_25 : decode method_15_code 25 = .ok (.iconst 0, 1) := by decide +kernel
theorem d_La_log_26 : decode method_15_code 26 = .ok (.ireturn, 1) := by decide +kernel
theorem d_La_fuel_0 : decode method_16_code 0 = .ok (.aload_n 3, 1) := by decide +kernel
theorem d_La_fuel_1 : decode method_16_code 1 = .ok (.iconst 0, 1) := by decide +kernel
theorem d_La_fuel_2 : decode method_16_code 2 = .ok (.aload_n 0, 1) := by decide +kernel
theorem d_La_fuel_3 : decode method_16_code 3 = .ok (.iload_n 1, 1) := by decide +kernel
theorem d_La_fuel_4 : decode method_16_code 4 = .ok (.iload_n 2, 1) := by decide +kernel
theorem d_La_fuel_5 : decode method_16_code 5 = .ok (.invokevirtual 64, 3) := by decide +kernel
theorem d_La_fuel_8 : decode method_16_code 8 = .ok (.i2l, 1) := by decide +kernel
theorem d_La_fuel_9 : decode method_16_code 9 = .ok (.lastore, 1) := by decide +kernel
theorem d_La_fuel_10 : decode method_16_code 10 = .ok (.goto 15, 3) := by decide +kernel
theorem d_La_fuel_13 : decode method_16_code 13 = .ok (.astore 4, 2) := by decide +kernel
theorem d_La_fuel_15 : decode method_16_code 15 = .ok (.iconst 1, 1) := by decide +kernel
theorem d_La_fuel_16 : decode method_16_code 16 = .ok (.ireturn, 1) := by decide +kernel
theorem d_La_fuel_17 : decode method_16_code 17 = .ok (.astore 4, 2) := by decide +kernel
theorem d_La_fuel_19 : decode method_16_code 19 = .ok (.iconst 2, 1) := by decide +kernel
theorem d_La_fuel_20 : decode method_16_code 20 = .ok (.ireturn, 1) := by decide +kernel
theorem d_La_fuel_21 : decode method_16_code 21 = .ok (.astore 4, 2) := by decide +kernel
theorem d_La_fuel_23 : decode method_16_code 23 = .ok (.iconst 3, 1) := by decide +kernel
theorem d_La_fuel_24 : decode method_16_code 24 = .ok (.ireturn, 1) := by decide +kernel
theorem d_La_fuel_25 : decode method_16_code 25 = .ok (.iconst 0, 1) := by decide +kernel
theorem d_La_fuel_26 : decode method_16_code 26 = .ok (.ireturn, 1) := by decide +kernel
theorem d_La_bound_0 : decode method_17_code 0 = .ok (.aload_n 1, 1) := by decide +kernel
theorem d_La_bound_1 : decode method_17_code 1 = .ok (.iconst 0, 1) := by decide +kernel
theorem d_La_bound_2 : decode method_17_code 2 = .ok (.aload_n 0, 1) := by decide +kernel
theorem d_La_bound_3 : decode method_17_code 3 = .ok (.invokevirtual 67, 3) := by decide +kernel
theorem d_La_bound_6 : decode method_17_code 6 = .ok (.lastore, 1) := by decide +kernel
theorem d_La_bound_7 : decode method_17_code 7 = .ok (.goto 6, 3) := by decide +kernel
theorem d_La_bound_10 : decode method_17_code 10 = .ok (.astore_n 2, 1) := by decide +kernel
theorem d_La_bound_11 : decode method_17_code 11 = .ok (.iconst 1, 1) := by decide +kernel
theorem d_La_bound_12 : decode method_17_code 12 = .ok (.ireturn, 1) := by decide +kernel
theorem d_La_bound_13 : decode method_17_code 13 = .ok (.iconst 0, 1) := by decide +kernel
theorem d_La_bound_14 : decode method_17_code 14 = .ok (.ireturn, 1) := by decide +kernel
theorem d_La_price_0 : decode method_18_code 0 = .ok (.aload_n 3, 1) := by decide +kernel
theorem d_La_price_1 : decode method_18_code 1 = .ok (.iconst 0, 1) := by decide +kernel
theorem d_La_price_2 : decode method_18_code 2 = .ok (.aload_n 0, 1) := by decide +kernel
theorem d_La_price_3 : decode method_18_code 3 = .ok (.iload_n 1, 1) := by decide +kernel
theorem d_La_price_4 : decode method_18_code 4 = .ok (.iload_n 2, 1) := by decide +kernel
theorem d_La_price_5 : decode method_18_code 5 = .ok (.invokevirtual 70, 3) := by decide +kernel
theorem d_La_price_8 : decode method_18_code 8 = .ok (.lastore, 1) := by decide +kernel
theorem d_La_price_9 : decode method_18_code 9 = .ok (.goto 11, 3) := by decide +kernel
theorem d_La_price_12 : decode method_18_code 12 = .ok (.astore 4, 2) := by decide +kernel
theorem d_La_price_14 : decode method_18_code 14 = .ok (.iconst 1, 1) := by decide +kernel
theorem d_La_price_15 : decode method_18_code 15 = .ok (.ireturn, 1) := by decide +kernel
theorem d_La_price_16 : decode method_18_code 16 = .ok (.astore 4, 2) := by decide +kernel
theorem d_La_price_18 : decode method_18_code 18 = .ok (.iconst 2, 1) := by decide +kernel
theorem d_La_price_19 : decode method_18_code 19 = .ok (.ireturn, 1) := by decide +kernel
theorem d_La_price_20 : decode method_18_code 20 = .ok (.iconst 0, 1) := by decide +kernel
theorem d_La_price_21 : decode method_18_code 21 = .ok (.ireturn, 1) := by decide +kernel
theorem d_La_override_0 : decode method_19_code 0 = .ok (.aload_n 2, 1) := by decide +kernel
theorem d_La_override_1 : decode method_19_code 1 = .ok (.iconst 0, 1) := by decide +kernel
theorem d_La_override_2 : decode method_19_code 2 = .ok (.aload_n 0, 1) := by decide +kernel
theorem d_La_override_3 : decode method_19_code 3 = .ok (.iload_n 1, 1) := by decide +kernel
theorem d_La_override_4 : decode method_19_code 4 = .ok (.invokevirtual 74, 3) := by decide +kernel
theorem d_La_override_7 : decode method_19_code 7 = .ok (.i2l, 1) := by decide +kernel
theorem d_La_override_8 : decode method_19_code 8 = .ok (.lastore, 1) := by decide +kernel
theorem d_La_override_9 : decode method_19_code 9 = .ok (.goto 9, 3) := by decide +kernel
theorem d_La_override_12 : decode method_19_code 12 = .ok (.astore_n 3, 1) := by decide +kernel
theorem d_La_override_13 : decode method_19_code 13 = .ok (.iconst 1, 1) := by decide +kernel
theorem d_La_override_14 : decode method_19_code 14 = .ok (.ireturn, 1) := by decide +kernel
theorem d_La_override_15 : decode method_19_code 15 = .ok (.astore_n 3, 1) := by decide +kernel
theorem d_La_override_16 : decode method_19_code 16 = .ok (.iconst 2, 1) := by decide +kernel
theorem d_La_override_17 : decode method_19_code 17 = .ok (.ireturn, 1) := by decide +kernel
theorem d_La_override_18 : decode method_19_code 18 = .ok (.iconst 0, 1) := by decide +kernel
theorem d_La_override_19 : decode method_19_code 19 = .ok (.ireturn, 1) := by decide +kernel
theorem d_La_greatest_0 : decode method_20_code 0 = .ok (.aload_n 1, 1) := by decide +kernel
theorem d_La_greatest_1 : decode method_20_code 1 = .ok (.iconst 0, 1) := by decide +kernel
theorem d_La_greatest_2 : decode method_20_code 2 = .ok (.aload_n 0, 1) := by decide +kernel
theorem d_La_greatest_3 : decode method_20_code 3 = .ok (.invokevirtual 77, 3) := by decide +kernel
theorem d_La_greatest_6 : decode method_20_code 6 = .ok (.ifCond .eq 7, 3) := by decide +kernel
theorem d_La_greatest_9 : decode method_20_code 9 = .ok (.lconst 1, 1) := by decide +kernel
theorem d_La_greatest_10 : decode method_20_code 10 = .ok (.goto 4, 3) := by decide +kernel
theorem d_La_greatest_13 : decode method_20_code 13 = .ok (.lconst 0, 1) := by decide +kernel
theorem d_La_greatest_14 : decode method_20_code 14 = .ok (.lastore, 1) := by decide +kernel
theorem d_La_greatest_15 : decode method_20_code 15 = .ok (.goto 6, 3) := by decide +kernel
theorem d_La_greatest_18 : decode method_20_code 18 = .ok (.astore_n 2, 1) := by decide +kernel
theorem d_La_greatest_19 : decode method_20_code 19 = .ok (.iconst 1, 1) := by decide +kernel
theorem d_La_greatest_20 : decode method_20_code 20 = .ok (.ireturn, 1) := by decide +kernel
theorem d_La_greatest_21 : decode method_20_code 21 = .ok (.iconst 0, 1) := by decide +kernel
theorem d_La_greatest_22 : decode method_20_code 22 = .ok (.ireturn, 1) := by decide +kernel
theorem d_La_law_0 : decode code 0 = .ok (.new 8, 3) := by decide +kernel
theorem d_La_law_3 : decode code 3 = .ok (.dup, 1) := by decide +kernel
theorem d_La_law_4 : decode code 4 = .ok (.aload_n 0, 1) := by decide +kernel
theorem d_La_law_5 : decode code 5 = .ok (.iconst 0, 1) := by decide +kernel
theorem d_La_law_6 : decode code 6 = .ok (.invokestatic 81, 3) := by decide +kernel
theorem d_La_law_9 : decode code 9 = .ok (.invokespecial 87, 3) := by decide +kernel
theorem d_La_law_12 : decode code 12 = .ok (.astore_n 1, 1) := by decide +kernel
theorem d_La_law_13 : decode code 13 = .ok (.new 90, 3) := by decide +kernel
theorem d_La_law_16 : decode code 16 = .ok (.dup, 1) := by decide +kernel
theorem d_La_law_17 : decode code 17 = .ok (.aload_n 0, 1) := by decide +kernel
theorem d_La_law_18 : decode code 18 = .ok (.iconst 0, 1) := by decide +kernel
theorem d_La_law_19 : decode code 19 = .ok (.invokestatic 81, 3) := by decide +kernel
theorem d_La_law_22 : decode code 22 = .ok (.invokespecial 92, 3) := by decide +kernel
theorem d_La_law_25 : decode code 25 = .ok (.astore_n 2, 1) := by decide +kernel
theorem d_La_law_26 : decode code 26 = .ok (.iconst 1, 1) := by decide +kernel
theorem d_La_law_27 : decode code 27 = .ok (.newarray .long, 2) := by decide +kernel
theorem d_La_law_29 : decode code 29 = .ok (.astore_n 3, 1) := by decide +kernel
theorem d_La_law_30 : decode code 30 = .ok (.iconst 1, 1) := by decide +kernel
theorem d_La_law_31 : decode code 31 = .ok (.istore 4, 2) := by decide +kernel
theorem d_La_law_33 : decode code 33 = .ok (.iload 4, 2) := by decide +kernel
theorem d_La_law_35 : decode code 35 = .ok (.aload_n 0, 1) := by decide +kernel
theorem d_La_law_36 : decode code 36 = .ok (.arraylength, 1) := by decide +kernel
theorem d_La_law_37 : decode code 37 = .ok (.bipush 7, 2) := by decide +kernel
theorem d_La_law_39 : decode code 39 = .ok (.isub, 1) := by decide +kernel
theorem d_La_law_40 : decode code 40 = .ok (.if_icmp .gt 1417, 3) := by decide +kernel
theorem d_La_law_43 : decode code 43 = .ok (.aload_n 0, 1) := by decide +kernel
theorem d_La_law_44 : decode code 44 = .ok (.iload 4, 2) := by decide +kernel
theorem d_La_law_46 : decode code 46 = .ok (.iaload, 1) := by decide +kernel
theorem d_La_law_47 : decode code 47 = .ok (.bipush 31, 2) := by decide +kernel
theorem d_La_law_49 : decode code 49 = .ok (.iand, 1) := by decide +kernel
theorem d_La_law_50 : decode code 50 = .ok (.tableswitch 1401 0 18 #[90, 177, 264, 308, 446, 521, 584, 647, 710, 817, 936, 949, 1005, 1048, 1116, 1184, 1227, 1294, 1350], 90) := by decide +kernel
theorem d_La_law_140 : decode code 140 = .ok (.aload_n 1, 1) := by decide +kernel
theorem d_La_law_141 : decode code 141 = .ok (.aload_n 0, 1) := by decide +kernel
theorem d_La_law_142 : decode code 142 = .ok (.iload 4, 2) := by decide +kernel
theorem d_La_law_144 : decode code 144 = .ok (.iconst 1, 1) := by decide +kernel
theorem d_La_law_145 : decode code 145 = .ok (.iadd, 1) := by decide +kernel
theorem d_La_law_146 : decode code 146 = .ok (.iaload, 1) := by decide +kernel
theorem d_La_law_147 : decode code 147 = .ok (.aload_n 0, 1) := by decide +kernel
theorem d_La_law_148 : decode code 148 = .ok (.iload 4, 2) := by decide +kernel
theorem d_La_law_150 : decode code 150 = .ok (.iconst 2, 1) := by decide +kernel
theorem d_La_law_151 : decode code 151 = .ok (.iadd, 1) := by decide +kernel
theorem d_La_law_152 : decode code 152 = .ok (.iaload, 1) := by decide +kernel
theorem d_La_law_153 : decode code 153 = .ok (.aload_n 0, 1) := by decide +kernel
theorem d_La_law_154 : decode code 154 = .ok (.iload 4, 2) := by decide +kernel
theorem d_La_law_156 : decode code 156 = .ok (.iconst 3, 1) := by decide +kernel
theorem d_La_law_157 : decode code 157 = .ok (.iadd, 1) := by decide +kernel
theorem d_La_law_158 : decode code 158 = .ok (.iaload, 1) := by decide +kernel
theorem d_La_law_159 : decode code 159 = .ok (.aload_n 3, 1) := by decide +kernel
theorem d_La_law_160 : decode code 160 = .ok (.invokestatic 93, 3) := by decide +kernel
theorem d_La_law_163 : decode code 163 = .ok (.istore 5, 2) := by decide +kernel
theorem d_La_law_165 : decode code 165 = .ok (.aload_n 2, 1) := by decide +kernel
theorem d_La_law_166 : decode code 166 = .ok (.aload_n 0, 1) := by decide +kernel
theorem d_La_law_167 : decode code 167 = .ok (.iload 4, 2) := by decide +kernel
theorem d_La_law_169 : decode code 169 = .ok (.iconst 1, 1) := by decide +kernel
theorem d_La_law_170 : decode code 170 = .ok (.iadd, 1) := by decide +kernel
theorem d_La_law_171 : decode code 171 = .ok (.iaload, 1) := by decide +kernel
theorem d_La_law_172 : decode code 172 = .ok (.aload_n 0, 1) := by decide +kernel
theorem d_La_law_173 : decode code 173 = .ok (.iload 4, 2) := by decide +kernel
theorem d_La_law_175 : decode code 175 = .ok (.iconst 2, 1) := by decide +kernel
theorem d_La_law_176 : decode code 176 = .ok (.iadd, 1) := by decide +kernel
theorem d_La_law_177 : decode code 177 = .ok (.iaload, 1) := by decide +kernel
theorem d_La_law_178 : decode code 178 = .ok (.aload_n 0, 1) := by decide +kernel
theorem d_La_law_179 : decode code 179 = .ok (.iload 4, 2) := by decide +kernel
theorem d_La_law_181 : decode code 181 = .ok (.iconst 3, 1) := by decide +kernel
theorem d_La_law_182 : decode code 182 = .ok (.iadd, 1) := by decide +kernel
theorem d_La_law_183 : decode code 183 = .ok (.iaload, 1) := by decide +kernel
theorem d_La_law_184 : decode code 184 = .ok (.invokevirtual 96, 3) := by decide +kernel
theorem d_La_law_187 : decode code 187 = .ok (.istore 6, 2) := by decide +kernel
theorem d_La_law_189 : decode code 189 = .ok (.aload_n 2, 1) := by decide +kernel
theorem d_La_law_190 : decode code 190 = .ok (.invokevirtual 97, 3) := by decide +kernel
theorem d_La_law_193 : decode code 193 = .ok (.iload 5, 2) := by decide +kernel
theorem d_La_law_195 : decode code 195 = .ok (.if_icmp .eq 5, 3) := by decide +kernel
theorem d_La_law_198 : decode code 198 = .ok (.iconst 0, 1) := by decide +kernel
theorem d_La_law_199 : decode code 199 = .ok (.ireturn, 1) := by decide +kernel
theorem d_La_law_200 : decode code 200 = .ok (.iload 5, 2) := by decide +kernel
theorem d_La_law_202 : decode code 202 = .ok (.ifCond .ne 22, 3) := by decide +kernel
theorem d_La_law_205 : decode code 205 = .ok (.aload_n 3, 1) := by decide +kernel
theorem d_La_law_206 : decode code 206 = .ok (.iconst 0, 1) := by decide +kernel
theorem d_La_law_207 : decode code 207 = .ok (.laload, 1) := by decide +kernel
theorem d_La_law_208 : decode code 208 = .ok (.iload 6, 2) := by decide +kernel
theorem d_La_law_210 : decode code 210 = .ok (.ifCond .eq 7, 3) := by decide +kernel
theorem d_La_law_213 : decode code 213 = .ok (.lconst 1, 1) := by decide +kernel
theorem d_La_law_214 : decode code 214 = .ok (.goto 4, 3) := by decide +kernel
theorem d_La_law_217 : decode code 217 = .ok (.lconst 0, 1) := by decide +kernel
theorem d_La_law_218 : decode code 218 = .ok (.lcmp, 1) := by decide +kernel
theorem d_La_law_219 : decode code 219 = .ok (.ifCond .eq 5, 3) := by decide +kernel
theorem d_La_law_222 : decode code 222 = .ok (.iconst 0, 1) := by decide +kernel
theorem d_La_law_223 : decode code 223 = .ok (.ireturn, 1) := by decide +kernel
theorem d_La_law_224 : decode code 224 = .ok (.goto 1227, 3) := by decide +kernel
theorem d_La_law_227 : decode code 227 = .ok (.aload_n 1, 1) := by decide +kernel
theorem d_La_law_228 : decode code 228 = .ok (.aload_n 0, 1) := by decide +kernel
theorem d_La_law_229 : decode code 229 = .ok (.iload 4, 2) := by decide +kernel
theorem d_La_law_231 : decode code 231 = .ok (.iconst 1, 1) := by decide +kernel
theorem d_La_law_232 : decode code 232 = .ok (.iadd, 1) := by decide +kernel
theorem d_La_law_233 : decode code 233 = .ok (.iaload, 1) := by decide +kernel
theorem d_La_law_234 : decode code 234 = .ok (.aload_n 0, 1) := by decide +kernel
theorem d_La_law_235 : decode code 235 = .ok (.iload 4, 2) := by decide +kernel
theorem d_La_law_237 : decode code 237 = .ok (.iconst 2, 1) := by decide +kernel
theorem d_La_law_238 : decode code 238 = .ok (.iadd, 1) := by decide +kernel
theorem d_La_law_239 : decode code 239 = .ok (.iaload, 1) := by decide +kernel
theorem d_La_law_240 : decode code 240 = .ok (.aload_n 0, 1) := by decide +kernel
theorem d_La_law_241 : decode code 241 = .ok (.iload 4, 2) := by decide +kernel
theorem d_La_law_243 : decode code 243 = .ok (.iconst 3, 1) := by decide +kernel
theorem d_La_law_244 : decode code 244 = .ok (.iadd, 1) := by decide +kernel
theorem d_La_law_245 : decode code 245 = .ok (.iaload, 1) := by decide +kernel
theorem d_La_law_246 : decode code 246 = .ok (.aload_n 3, 1) := by decide +kernel
theorem d_La_law_247 : decode code 247 = .ok (.invokestatic 100, 3) := by decide +kernel
theorem d_La_law_250 : decode code 250 = .ok (.istore 5, 2) := by decide +kernel
theorem d_La_law_252 : decode code 252 = .ok (.aload_n 2, 1) := by decide +kernel
theorem d_La_law_253 : decode code 253 = .ok (.aload_n 0, 1) := by decide +kernel
theorem d_La_law_254 : decode code 254 = .ok (.iload 4, 2) := by decide +kernel
theorem d_La_law_256 : decode code 256 = .ok (.iconst 1, 1) := by decide +kernel
theorem d_La_law_257 : decode code 257 = .ok (.iadd, 1) := by decide +kernel
theorem d_La_law_258 : decode code 258 = .ok (.iaload, 1) := by decide +kernel
theorem d_La_law_259 : decode code 259 = .ok (.aload_n 0, 1) := by decide +kernel
theorem d_La_law_260 : decode code 260 = .ok (.iload 4, 2) := by decide +kernel
theorem d_La_law_262 : decode code 262 = .ok (.iconst 2, 1) := by decide +kernel
theorem d_La_law_263 : decode code 263 = .ok (.iadd, 1) := by decide +kernel
theorem d_La_law_264 : decode code 264 = .ok (.iaload, 1) := by decide +kernel
theorem d_La_law_265 : decode code 265 = .ok (.aload_n 0, 1) := by decide +kernel
theorem d_La_law_266 : decode code 266 = .ok (.iload 4, 2) := by decide +kernel
theorem d_La_law_268 : decode code 268 = .ok (.iconst 3, 1) := by decide +kernel
theorem d_La_law_269 : decode code 269 = .ok (.iadd, 1) := by decide +kernel
theorem d_La_law_270 : decode code 270 = .ok (.iaload, 1) := by decide +kernel
theorem d_La_law_271 : decode code 271 = .ok (.invokevirtual 102, 3) := by decide +kernel
theorem d_La_law_274 : decode code 274 = .ok (.istore 6, 2) := by decide +kernel
theorem d_La_law_276 : decode code 276 = .ok (.aload_n 2, 1) := by decide +kernel
theorem d_La_law_277 : decode code 277 = .ok (.invokevirtual 97, 3) := by decide +kernel
theorem d_La_law_280 : decode code 280 = .ok (.iload 5, 2) := by decide +kernel
theorem d_La_law_282 : decode code 282 = .ok (.if_icmp .eq 5, 3) := by decide +kernel
theorem d_La_law_285 : decode code 285 = .ok (.iconst 0, 1) := by decide +kernel
theorem d_La_law_286 : decode code 286 = .ok (.ireturn, 1) := by decide +kernel
theorem d_La_law_287 : decode code 287 = .ok (.iload 5, 2) := by decide +kernel
theorem d_La_law_289 : decode code 289 = .ok (.ifCond .ne 22, 3) := by decide +kernel
theorem d_La_law_292 : decode code 292 = .ok (.aload_n 3, 1) := by decide +kernel
theorem d_La_law_293 : decode code 293 = .ok (.iconst 0, 1) := by decide +kernel
theorem d_La_law_294 : decode code 294 = .ok (.laload, 1) := by decide +kernel
theorem d_La_law_295 : decode code 295 = .ok (.iload 6, 2) := by decide +kernel
theorem d_La_law_297 : decode code 297 = .ok (.ifCond .eq 7, 3) := by decide +kernel
theorem d_La_law_300 : decode code 300 = .ok (.lconst 1, 1) := by decide +kernel
theorem d_La_law_301 : decode code 301 = .ok (.goto 4, 3) := by decide +kernel
theorem d_La_law_304 : decode code 304 = .ok (.lconst 0, 1) := by decide +kernel
theorem d_La_law_305 : decode code 305 = .ok (.lcmp, 1) := by decide +kernel
theorem d_La_law_306 : decode code 306 = .ok (.ifCond .eq 5, 3) := by decide +kernel
theorem d_La_law_309 : decode code 309 = .ok (.iconst 0, 1) := by decide +kernel
theorem d_La_law_310 : decode code 310 = .ok (.ireturn, 1) := by decide +kernel
theorem d_La_law_311 : decode code 311 = .ok (.goto 1140, 3) := by decide +kernel
theorem d_La_law_314 : decode code 314 = .ok (.aload_n 1, 1) := by decide +kernel
theorem d_La_law_315 : decode code 315 = .ok (.aload_n 3, 1) := by decide +kernel
theorem d_La_law_316 : decode code 316 = .ok (.invokestatic 103, 3) := by decide +kernel
theorem d_La_law_319 : decode code 319 = .ok (.istore 5, 2) := by decide +kernel
theorem d_La_law_321 : decode code 321 = .ok (.aload_n 2, 1) := by decide +kernel
theorem d_La_law_322 : decode code 322 = .ok (.invokevirtual 106, 3) := by decide +kernel
theorem d_La_law_325 : decode code 325 = .ok (.istore 6, 2) := by decide +kernel
theorem d_La_law_327 : decode code 327 = .ok (.aload_n 2, 1) := by decide +kernel
theorem d_La_law_328 : decode code 328 = .ok (.invokevirtual 97, 3) := by decide +kernel
theorem d_La_law_331 : decode code 331 = .ok (.iload 5, 2) := by decide +kernel
theorem d_La_law_333 : decode code 333 = .ok (.if_icmp .eq 5, 3) := by decide +kernel
theorem d_La_law_336 : decode code 336 = .ok (.iconst 0, 1) := by decide +kernel
theorem d_La_law_337 : decode code 337 = .ok (.ireturn, 1) := by decide +kernel
theorem d_La_law_338 : decode code 338 = .ok (.iload 5, 2) := by decide +kernel
theorem d_La_law_340 : decode code 340 = .ok (.ifCond .ne 15, 3) := by decide +kernel
theorem d_La_law_343 : decode code 343 = .ok (.aload_n 3, 1) := by decide +kernel
theorem d_La_law_344 : decode code 344 = .ok (.iconst 0, 1) := by decide +kernel
theorem d_La_law_345 : decode code 345 = .ok (.laload, 1) := by decide +kernel
theorem d_La_law_346 : decode code 346 = .ok (.iload 6, 2) := by decide +kernel
theorem d_La_law_348 : decode code 348 = .ok (.i2l, 1) := by decide +kernel
theorem d_La_law_349 : decode code 349 = .ok (.lcmp, 1) := by decide +kernel
theorem d_La_law_350 : decode code 350 = .ok (.ifCond .eq 5, 3) := by decide +kernel
theorem d_La_law_353 : decode code 353 = .ok (.iconst 0, 1) := by decide +kernel
theorem d_La_law_354 : decode code 354 = .ok (.ireturn, 1) := by decide +kernel
theorem d_La_law_355 : decode code 355 = .ok (.goto 1096, 3) := by decide +kernel
theorem d_La_law_358 : decode code 358 = .ok (.aload_n 1, 1) := by decide +kernel
theorem d_La_law_359 : decode code 359 = .ok (.aload_n 0, 1) := by decide +kernel
theorem d_La_law_360 : decode code 360 = .ok (.iload 4, 2) := by decide +kernel
theorem d_La_law_362 : decode code 362 = .ok (.iconst 1, 1) := by decide +kernel
theorem d_La_law_363 : decode code 363 = .ok (.iadd, 1) := by decide +kernel
theorem d_La_law_364 : decode code 364 = .ok (.iaload, 1) := by decide +kernel
theorem d_La_law_365 : decode code 365 = .ok (.aload_n 0, 1) := by decide +kernel
theorem d_La_law_366 : decode code 366 = .ok (.iload 4, 2) := by decide +kernel
theorem d_La_law_368 : decode code 368 = .ok (.iconst 2, 1) := by decide +kernel
theorem d_La_law_369 : decode code 369 = .ok (.iadd, 1) := by decide +kernel
theorem d_La_law_370 : decode code 370 = .ok (.iaload, 1) := by decide +kernel
theorem d_La_law_371 : decode code 371 = .ok (.aload_n 0, 1) := by decide +kernel
theorem d_La_law_372 : decode code 372 = .ok (.iload 4, 2) := by decide +kernel
theorem d_La_law_374 : decode code 374 = .ok (.iconst 3, 1) := by decide +kernel
theorem d_La_law_375 : decode code 375 = .ok (.iadd, 1) := by decide +kernel
theorem d_La_law_376 : decode code 376 = .ok (.iaload, 1) := by decide +kernel
theorem d_La_law_377 : decode code 377 = .ok (.aload_n 0, 1) := by decide +kernel
theorem d_La_law_378 : decode code 378 = .ok (.iload 4, 2) := by decide +kernel
theorem d_La_law_380 : decode code 380 = .ok (.iconst 4, 1) := by decide +kernel
theorem d_La_law_381 : decode code 381 = .ok (.iadd, 1) := by decide +kernel
theorem d_La_law_382 : decode code 382 = .ok (.iaload, 1) := by decide +kernel
theorem d_La_law_383 : decode code 383 = .ok (.aload_n 0, 1) := by decide +kernel
theorem d_La_law_384 : decode code 384 = .ok (.iload 4, 2) := by decide +kernel
theorem d_La_law_386 : decode code 386 = .ok (.iconst 5, 1) := by decide +kernel
theorem d_La_law_387 : decode code 387 = .ok (.iadd, 1) := by decide +kernel
theorem d_La_law_388 : decode code 388 = .ok (.iaload, 1) := by decide +kernel
theorem d_La_law_389 : decode code 389 = .ok (.i2l, 1) := by decide +kernel
theorem d_La_law_390 : decode code 390 = .ok (.bipush 32, 2) := by decide +kernel
theorem d_La_law_392 : decode code 392 = .ok (.lshl, 1) := by decide +kernel
theorem d_La_law_393 : decode code 393 = .ok (.aload_n 0, 1) := by decide +kernel
theorem d_La_law_394 : decode code 394 = .ok (.iload 4, 2) := by decide +kernel
theorem d_La_law_396 : decode code 396 = .ok (.bipush 6, 2) := by decide +kernel
theorem d_La_law_398 : decode code 398 = .ok (.iadd, 1) := by decide +kernel
theorem d_La_law_399 : decode code 399 = .ok (.iaload, 1) := by decide +kernel
theorem d_La_law_400 : decode code 400 = .ok (.i2l, 1) := by decide +kernel
theorem d_La_law_401 : decode code 401 = .ok (.ldc2_w 107, 3) := by decide +kernel
theorem d_La_law_404 : decode code 404 = .ok (.land, 1) := by decide +kernel
theorem d_La_law_405 : decode code 405 = .ok (.lor, 1) := by decide +kernel
theorem d_La_law_406 : decode code 406 = .ok (.aload_n 3, 1) := by decide +kernel
theorem d_La_law_407 : decode code 407 = .ok (.invokestatic 109, 3) := by decide +kernel
theorem d_La_law_410 : decode code 410 = .ok (.istore 5, 2) := by decide +kernel
theorem d_La_law_412 : decode code 412 = .ok (.aload_n 2, 1) := by decide +kernel
theorem d_La_law_413 : decode code 413 = .ok (.aload_n 0, 1) := by decide +kernel
theorem d_La_law_414 : decode code 414 = .ok (.iload 4, 2) := by decide +kernel
theorem d_La_law_416 : decode code 416 = .ok (.iconst 1, 1) := by decide +kernel
theorem d_La_law_417 : decode code 417 = .ok (.iadd, 1) := by decide +kernel
theorem d_La_law_418 : decode code 418 = .ok (.iaload, 1) := by decide +kernel
theorem d_La_law_419 : decode code 419 = .ok (.aload_n 0, 1) := by decide +kernel
theorem d_La_law_420 : decode code 420 = .ok (.iload 4, 2) := by decide +kernel
theorem d_La_law_422 : decode code 422 = .ok (.iconst 2, 1) := by decide +kernel
theorem d_La_law_423 : decode code 423 = .ok (.iadd, 1) := by decide +kernel
theorem d_La_law_424 : decode code 424 = .ok (.iaload, 1) := by decide +kernel
theorem d_La_law_425 : decode code 425 = .ok (.aload_n 0, 1) := by decide +kernel
theorem d_La_law_426 : decode code 426 = .ok (.iload 4, 2) := by decide +kernel
theorem d_La_law_428 : decode code 428 = .ok (.iconst 3, 1) := by decide +kernel
theorem d_La_law_429 : decode code 429 = .ok (.iadd, 1) := by decide +kernel
theorem d_La_law_430 : decode code 430 = .ok (.iaload, 1) := by decide +kernel
theorem d_La_law_431 : decode code 431 = .ok (.aload_n 0, 1) := by decide +kernel
theorem d_La_law_432 : decode code 432 = .ok (.iload 4, 2) := by decide +kernel
theorem d_La_law_434 : decode code 434 = .ok (.iconst 4, 1) := by decide +kernel
theorem d_La_law_435 : decode code 435 = .ok (.iadd, 1) := by decide +kernel
theorem d_La_law_436 : decode code 436 = .ok (.iaload, 1) := by decide +kernel
theorem d_La_law_437 : decode code 437 = .ok (.aload_n 0, 1) := by decide +kernel
theorem d_La_law_438 : decode code 438 = .ok (.iload 4, 2) := by decide +kernel
theorem d_La_law_440 : decode code 440 = .ok (.iconst 5, 1) := by decide +kernel
theorem d_La_law_441 : decode code 441 = .ok (.iadd, 1) := by decide +kernel
theorem d_La_law_442 : decode code 442 = .ok (.iaload, 1) := by decide +kernel
theorem d_La_law_443 : decode code 443 = .ok (.i2l, 1) := by decide +kernel
theorem d_La_law_444 : decode code 444 = .ok (.bipush 32, 2) := by decide +kernel
theorem d_La_law_446 : decode code 446 = .ok (.lshl, 1) := by decide +kernel
theorem d_La_law_447 : decode code 447 = .ok (.aload_n 0, 1) := by decide +kernel
theorem d_La_law_448 : decode code 448 = .ok (.iload 4, 2) := by decide +kernel
theorem d_La_law_450 : decode code 450 = .ok (.bipush 6, 2) := by decide +kernel
theorem d_La_law_452 : decode code 452 = .ok (.iadd, 1) := by decide +kernel
theorem d_La_law_453 : decode code 453 = .ok (.iaload, 1) := by decide +kernel
theorem d_La_law_454 : decode code 454 = .ok (.i2l, 1) := by decide +kernel
theorem d_La_law_455 : decode code 455 = .ok (.ldc2_w 107, 3) := by decide +kernel
theorem d_La_law_458 : decode code 458 = .ok (.land, 1) := by decide +kernel
theorem d_La_law_459 : decode code 459 = .ok (.lor, 1) := by decide +kernel
theorem d_La_law_460 : decode code 460 = .ok (.invokevirtual 112, 3) := by decide +kernel
theorem d_La_law_463 : decode code 463 = .ok (.istore 6, 2) := by decide +kernel
theorem d_La_law_465 : decode code 465 = .ok (.aload_n 2, 1) := by decide +kernel
theorem d_La_law_466 : decode code 466 = .ok (.invokevirtual 97, 3) := by decide +kernel
theorem d_La_law_469 : decode code 469 = .ok (.iload 5, 2) := by decide +kernel
theorem d_La_law_471 : decode code 471 = .ok (.if_icmp .eq 5, 3) := by decide +kernel
theorem d_La_law_474 : decode code 474 = .ok (.iconst 0, 1) := by decide +kernel
theorem d_La_law_475 : decode code 475 = .ok (.ireturn, 1) := by decide +kernel
theorem d_La_law_476 : decode code 476 = .ok (.iload 5, 2) := by decide +kernel
theorem d_La_law_478 : decode code 478 = .ok (.ifCond .ne 15, 3) := by decide +kernel
theorem d_La_law_481 : decode code 481 = .ok (.aload_n 3, 1) := by decide +kernel
theorem d_La_law_482 : decode code 482 = .ok (.iconst 0, 1) := by decide +kernel
theorem d_La_law_483 : decode code 483 = .ok (.laload, 1) := by decide +kernel
theorem d_La_law_484 : decode code 484 = .ok (.iload 6, 2) := by decide +kernel
theorem d_La_law_486 : decode code 486 = .ok (.i2l, 1) := by decide +kernel
theorem d_La_law_487 : decode code 487 = .ok (.lcmp, 1) := by decide +kernel
theorem d_La_law_488 : decode code 488 = .ok (.ifCond .eq 5, 3) := by decide +kernel
theorem d_La_law_491 : decode code 491 = .ok (.iconst 0, 1) := by decide +kernel
theorem d_La_law_492 : decode code 492 = .ok (.ireturn, 1) := by decide +kernel
theorem d_La_law_493 : decode code 493 = .ok (.goto 958, 3) := by decide +kernel
theorem d_La_law_496 : decode code 496 = .ok (.aload_n 1, 1) := by decide +kernel
theorem d_La_law_497 : decode code 497 = .ok (.aload_n 0, 1) := by decide +kernel
theorem d_La_law_498 : decode code 498 = .ok (.iload 4, 2) := by decide +kernel
theorem d_La_law_500 : decode code 500 = .ok (.iconst 1, 1) := by decide +kernel
theorem d_La_law_501 : decode code 501 = .ok (.iadd, 1) := by decide +kernel
theorem d_La_law_502 : decode code 502 = .ok (.iaload, 1) := by decide +kernel
theorem d_La_law_503 : decode code 503 = .ok (.aload_n 0, 1) := by decide +kernel
theorem d_La_law_504 : decode code 504 = .ok (.iload 4, 2) := by decide +kernel
theorem d_La_law_506 : decode code 506 = .ok (.iconst 2, 1) := by decide +kernel
theorem d_La_law_507 : decode code 507 = .ok (.iadd, 1) := by decide +kernel
theorem d_La_law_508 : decode code 508 = .ok (.iaload, 1) := by decide +kernel
theorem d_La_law_509 : decode code 509 = .ok (.aload_n 3, 1) := by decide +kernel
theorem d_La_law_510 : decode code 510 = .ok (.invokestatic 113, 3) := by decide +kernel
theorem d_La_law_513 : decode code 513 = .ok (.istore 5, 2) := by decide +kernel
theorem d_La_law_515 : decode code 515 = .ok (.aload_n 2, 1) := by decide +kernel
theorem d_La_law_516 : decode code 516 = .ok (.aload_n 0, 1) := by decide +kernel
theorem d_La_law_517 : decode code 517 = .ok (.iload 4, 2) := by decide +kernel
theorem d_La_law_519 : decode code 519 = .ok (.iconst 1, 1) := by decide +kernel
theorem d_La_law_520 : decode code 520 = .ok (.iadd, 1) := by decide +kernel
theorem d_La_law_521 : decode code 521 = .ok (.iaload, 1) := by decide +kernel
theorem d_La_law_522 : decode code 522 = .ok (.aload_n 0, 1) := by decide +kernel
theorem d_La_law_523 : decode code 523 = .ok (.iload 4, 2) := by decide +kernel
theorem d_La_law_525 : decode code 525 = .ok (.iconst 2, 1) := by decide +kernel
theorem d_La_law_526 : decode code 526 = .ok (.iadd, 1) := by decide +kernel
theorem d_La_law_527 : decode code 527 = .ok (.iaload, 1) := by decide +kernel
theorem d_La_law_528 : decode code 528 = .ok (.invokevirtual 116, 3) := by decide +kernel
theorem d_La_law_531 : decode code 531 = .ok (.istore 6, 2) := by decide +kernel
theorem d_La_law_533 : decode code 533 = .ok (.aload_n 2, 1) := by decide +kernel
theorem d_La_law_534 : decode code 534 = .ok (.invokevirtual 97, 3) := by decide +kernel
theorem d_La_law_537 : decode code 537 = .ok (.iload 5, 2) := by decide +kernel
theorem d_La_law_539 : decode code 539 = .ok (.if_icmp .eq 5, 3) := by decide +kernel
theorem d_La_law_542 : decode code 542 = .ok (.iconst 0, 1) := by decide +kernel
theorem d_La_law_543 : decode code 543 = .ok (.ireturn, 1) := by decide +kernel
theorem d_La_law_544 : decode code 544 = .ok (.iload 5, 2) := by decide +kernel
theorem d_La_law_546 : decode code 546 = .ok (.ifCond .ne 22, 3) := by decide +kernel
theorem d_La_law_549 : decode code 549 = .ok (.aload_n 3, 1) := by decide +kernel
theorem d_La_law_550 : decode code 550 = .ok (.iconst 0, 1) := by decide +kernel
theorem d_La_law_551 : decode code 551 = .ok (.laload, 1) := by decide +kernel
theorem d_La_law_552 : decode code 552 = .ok (.iload 6, 2) := by decide +kernel
theorem d_La_law_554 : decode code 554 = .ok (.ifCond .eq 7, 3) := by decide +kernel
theorem d_La_law_557 : decode code 557 = .ok (.lconst 1, 1) := by decide +kernel
theorem d_La_law_558 : decode code 558 = .ok (.goto 4, 3) := by decide +kernel
theorem d_La_law_561 : decode code 561 = .ok (.lconst 0, 1) := by decide +kernel
theorem d_La_law_562 : decode code 562 = .ok (.lcmp, 1) := by decide +kernel
theorem d_La_law_563 : decode code 563 = .ok (.ifCond .eq 5, 3) := by decide +kernel
theorem d_La_law_566 : decode code 566 = .ok (.iconst 0, 1) := by decide +kernel
theorem d_La_law_567 : decode code 567 = .ok (.ireturn, 1) := by decide +kernel
theorem d_La_law_568 : decode code 568 = .ok (.goto 883, 3) := by decide +kernel
theorem d_La_law_571 : decode code 571 = .ok (.aload_n 1, 1) := by decide +kernel
theorem d_La_law_572 : decode code 572 = .ok (.aload_n 0, 1) := by decide +kernel
theorem d_La_law_573 : decode code 573 = .ok (.iload 4, 2) := by decide +kernel
theorem d_La_law_575 : decode code 575 = .ok (.iconst 1, 1) := by decide +kernel
theorem d_La_law_576 : decode code 576 = .ok (.iadd, 1) := by decide +kernel
theorem d_La_law_577 : decode code 577 = .ok (.iaload, 1) := by decide +kernel
theorem d_La_law_578 : decode code 578 = .ok (.aload_n 3, 1) := by decide +kernel
theorem d_La_law_579 : decode code 579 = .ok (.invokestatic 117, 3) := by decide +kernel
theorem d_La_law_582 : decode code 582 = .ok (.istore 5, 2) := by decide +kernel
theorem d_La_law_584 : decode code 584 = .ok (.aload_n 2, 1) := by decide +kernel
theorem d_La_law_585 : decode code 585 = .ok (.aload_n 0, 1) := by decide +kernel
theorem d_La_law_586 : decode code 586 = .ok (.iload 4, 2) := by decide +kernel
theorem d_La_law_588 : decode code 588 = .ok (.iconst 1, 1) := by decide +kernel
theorem d_La_law_589 : decode code 589 = .ok (.iadd, 1) := by decide +kernel
theorem d_La_law_590 : decode code 590 = .ok (.iaload, 1) := by decide +kernel
theorem d_La_law_591 : decode code 591 = .ok (.invokevirtual 120, 3) := by decide +kernel
theorem d_La_law_594 : decode code 594 = .ok (.istore 6, 2) := by decide +kernel
theorem d_La_law_596 : decode code 596 = .ok (.aload_n 2, 1) := by decide +kernel
theorem d_La_law_597 : decode code 597 = .ok (.invokevirtual 97, 3) := by decide +kernel
theorem d_La_law_600 : decode code 600 = .ok (.iload 5, 2) := by decide +kernel
theorem d_La_law_602 : decode code 602 = .ok (.if_icmp .eq 5, 3) := by decide +kernel
theorem d_La_law_605 : decode code 605 = .ok (.iconst 0, 1) := by decide +kernel
theorem d_La_law_606 : decode code 606 = .ok (.ireturn, 1) := by decide +kernel
theorem d_La_law_607 : decode code 607 = .ok (.iload 5, 2) := by decide +kernel
theorem d_La_law_609 : decode code 609 = .ok (.ifCond .ne 22, 3) := by decide +kernel
theorem d_La_law_612 : decode code 612 = .ok (.aload_n 3, 1) := by decide +kernel
theorem d_La_law_613 : decode code 613 = .ok (.iconst 0, 1) := by decide +kernel
theorem d_La_law_614 : decode code 614 = .ok (.laload, 1) := by decide +kernel
theorem d_La_law_615 : decode code 615 = .ok (.iload 6, 2) := by decide +kernel
theorem d_La_law_617 : decode code 617 = .ok (.ifCond .eq 7, 3) := by decide +kernel
theorem d_La_law_620 : decode code 620 = .ok (.lconst 1, 1) := by decide +kernel
theorem d_La_law_621 : decode code 621 = .ok (.goto 4, 3) := by decide +kernel
theorem d_La_law_624 : decode code 624 = .ok (.lconst 0, 1) := by decide +kernel
theorem d_La_law_625 : decode code 625 = .ok (.lcmp, 1) := by decide +kernel
theorem d_La_law_626 : decode code 626 = .ok (.ifCond .eq 5, 3) := by decide +kernel
theorem d_La_law_629 : decode code 629 = .ok (.iconst 0, 1) := by decide +kernel
theorem d_La_law_630 : decode code 630 = .ok (.ireturn, 1) := by decide +kernel
theorem d_La_law_631 : decode code 631 = .ok (.goto 820, 3) := by decide +kernel
theorem d_La_law_634 : decode code 634 = .ok (.aload_n 1, 1) := by decide +kernel
theorem d_La_law_635 : decode code 635 = .ok (.aload_n 0, 1) := by decide +kernel
theorem d_La_law_636 : decode code 636 = .ok (.iload 4, 2) := by decide +kernel
theorem d_La_law_638 : decode code 638 = .ok (.iconst 1, 1) := by decide +kernel
theorem d_La_law_639 : decode code 639 = .ok (.iadd, 1) := by decide +kernel
theorem d_La_law_640 : decode code 640 = .ok (.iaload, 1) := by decide +kernel
theorem d_La_law_641 : decode code 641 = .ok (.aload_n 3, 1) := by decide +kernel
theorem d_La_law_642 : decode code 642 = .ok (.invokestatic 121, 3) := by decide +kernel
theorem d_La_law_645 : decode code 645 = .ok (.istore 5, 2) := by decide +kernel
theorem d_La_law_647 : decode code 647 = .ok (.aload_n 2, 1) := by decide +kernel
theorem d_La_law_648 : decode code 648 = .ok (.aload_n 0, 1) := by decide +kernel
theorem d_La_law_649 : decode code 649 = .ok (.iload 4, 2) := by decide +kernel
theorem d_La_law_651 : decode code 651 = .ok (.iconst 1, 1) := by decide +kernel
theorem d_La_law_652 : decode code 652 = .ok (.iadd, 1) := by decide +kernel
theorem d_La_law_653 : decode code 653 = .ok (.iaload, 1) := by decide +kernel
theorem d_La_law_654 : decode code 654 = .ok (.invokevirtual 123, 3) := by decide +kernel
theorem d_La_law_657 : decode code 657 = .ok (.istore 6, 2) := by decide +kernel
theorem d_La_law_659 : decode code 659 = .ok (.aload_n 2, 1) := by decide +kernel
theorem d_La_law_660 : decode code 660 = .ok (.invokevirtual 97, 3) := by decide +kernel
theorem d_La_law_663 : decode code 663 = .ok (.iload 5, 2) := by decide +kernel
theorem d_La_law_665 : decode code 665 = .ok (.if_icmp .eq 5, 3) := by decide +kernel
theorem d_La_law_668 : decode code 668 = .ok (.iconst 0, 1) := by decide +kernel
theorem d_La_law_669 : decode code 669 = .ok (.ireturn, 1) := by decide +kernel
theorem d_La_law_670 : decode code 670 = .ok (.iload 5, 2) := by decide +kernel
theorem d_La_law_672 : decode code 672 = .ok (.ifCond .ne 22, 3) := by decide +kernel
theorem d_La_law_675 : decode code 675 = .ok (.aload_n 3, 1) := by decide +kernel
theorem d_La_law_676 : decode code 676 = .ok (.iconst 0, 1) := by decide +kernel
theorem d_La_law_677 : decode code 677 = .ok (.laload, 1) := by decide +kernel
