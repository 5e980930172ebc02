theorem d_La_cell_0 : decode method_2_code 0 = .ok (.iload_n 1, 1) := by decide +kernel
theorem d_La_cell_1 : decode method_2_code 1 = .ok (.aload_n 0, 1) := by decide +kernel
theorem d_La_cell_2 : decode method_2_code 2 = .ok (.arraylength, 1) := by decide +kernel
theorem d_La_cell_3 : decode method_2_code 3 = .ok (.if_icmp .ge 9, 3) := by decide +kernel
theorem d_La_cell_6 : decode method_2_code 6 = .ok (.aload_n 0, 1) := by decide +kernel
theorem d_La_cell_7 : decode method_2_code 7 = .ok (.iload_n 1, 1) := by decide +kernel
theorem d_La_cell_8 : decode method_2_code 8 = .ok (.iaload, 1) := by decide +kernel
theorem d_La_cell_9 : decode method_2_code 9 = .ok (.goto 4, 3) := by decide +kernel
theorem d_La_cell_12 : decode method_2_code 12 = .ok (.iconst 0, 1) := by decide +kernel
theorem d_La_cell_13 : decode method_2_code 13 = .ok (.ireturn, 1) := by decide +kernel
theorem d_La_stem_0 : decode method_3_code 0 = .ok (.aload 4, 2) := by decide +kernel
theorem d_La_stem_2 : decode method_3_code 2 = .ok (.iconst 0, 1) := by decide +kernel
theorem d_La_stem_3 : decode method_3_code 3 = .ok (.aload_n 0, 1) := by decide +kernel
theorem d_La_stem_4 : decode method_3_code 4 = .ok (.iload_n 1, 1) := by decide +kernel
theorem d_La_stem_5 : decode method_3_code 5 = .ok (.iload_n 2, 1) := by decide +kernel
theorem d_La_stem_6 : decode method_3_code 6 = .ok (.iload_n 3, 1) := by decide +kernel
theorem d_La_stem_7 : decode method_3_code 7 = .ok (.invokevirtual 7, 3) := by decide +kernel
theorem d_La_stem_10 : decode method_3_code 10 = .ok (.ifCond .eq 7, 3) := by decide +kernel
theorem d_La_stem_13 : decode method_3_code 13 = .ok (.lconst 1, 1) := by decide +kernel
theorem d_La_stem_14 : decode method_3_code 14 = .ok (.goto 4, 3) := by decide +kernel
theorem d_La_stem_17 : decode method_3_code 17 = .ok (.lconst 0, 1) := by decide +kernel
theorem d_La_stem_18 : decode method_3_code 18 = .ok (.lastore, 1) := by decide +kernel
theorem d_La_stem_19 : decode method_3_code 19 = .ok (.goto 11, 3) := by decide +kernel
theorem d_La_stem_22 : decode method_3_code 22 = .ok (.astore 5, 2) := by decide +kernel
theorem d_La_stem_24 : decode method_3_code 24 = .ok (.iconst 1, 1) := by decide +kernel
theorem d_La_stem_25 : decode method_3_code 25 = .ok (.ireturn, 1) := by decide +kernel
theorem d_La_stem_26 : decode method_3_code 26 = .ok (.astore 5, 2) := by decide +kernel
theorem d_La_stem_28 : decode method_3_code 28 = .ok (.iconst 2, 1) := by decide +kernel
theorem d_La_stem_29 : decode method_3_code 29 = .ok (.ireturn, 1) := by decide +kernel
theorem d_La_stem_30 : decode method_3_code 30 = .ok (.iconst 0, 1) := by decide +kernel
theorem d_La_stem_31 : decode method_3_code 31 = .ok (.ireturn, 1) := by decide +kernel
theorem d_La_fault_0 : decode method_4_code 0 = .ok (.aload 4, 2) := by decide +kernel
theorem d_La_fault_2 : decode method_4_code 2 = .ok (.iconst 0, 1) := by decide +kernel
theorem d_La_fault_3 : decode method_4_code 3 = .ok (.aload_n 0, 1) := by decide +kernel
theorem d_La_fault_4 : decode method_4_code 4 = .ok (.iload_n 1, 1) := by decide +kernel
theorem d_La_fault_5 : decode method_4_code 5 = .ok (.iload_n 2, 1) := by decide +kernel
theorem d_La_fault_6 : decode method_4_code 6 = .ok (.iload_n 3, 1) := by decide +kernel
theorem d_La_fault_7 : decode method_4_code 7 = .ok (.invokevirtual 17, 3) := by decide +kernel
theorem d_La_fault_10 : decode method_4_code 10 = .ok (.ifCond .eq 7, 3) := by decide +kernel
theorem d_La_fault_13 : decode method_4_code 13 = .ok (.lconst 1, 1) := by decide +kernel
theorem d_La_fault_14 : decode method_4_code 14 = .ok (.goto 4, 3) := by decide +kernel
theorem d_La_fault_17 : decode method_4_code 17 = .ok (.lconst 0, 1) := by decide +kernel
theorem d_La_fault_18 : decode method_4_code 18 = .ok (.lastore, 1) := by decide +kernel
theorem d_La_fault_19 : decode method_4_code 19 = .ok (.goto 11, 3) := by decide +kernel
theorem d_La_fault_22 : decode method_4_code 22 = .ok (.astore 5, 2) := by decide +kernel
theorem d_La_fault_24 : decode method_4_code 24 = .ok (.iconst 1, 1) := by decide +kernel
theorem d_La_fault_25 : decode method_4_code 25 = .ok (.ireturn, 1) := by decide +kernel
theorem d_La_fault_26 : decode method_4_code 26 = .ok (.astore 5, 2) := by decide +kernel
theorem d_La_fault_28 : decode method_4_code 28 = .ok (.iconst 2, 1) := by decide +kernel
theorem d_La_fault_29 : decode method_4_code 29 = .ok (.ireturn, 1) := by decide +kernel
theorem d_La_fault_30 : decode method_4_code 30 = .ok (.iconst 0, 1) := by decide +kernel
theorem d_La_fault_31 : decode method_4_code 31 = .ok (.ireturn, 1) := by decide +kernel
theorem d_La_stems_0 : decode method_5_code 0 = .ok (.aload_n 1, 1) := by decide +kernel
theorem d_La_stems_1 : decode method_5_code 1 = .ok (.iconst 0, 1) := by decide +kernel
theorem d_La_stems_2 : decode method_5_code 2 = .ok (.aload_n 0, 1) := by decide +kernel
theorem d_La_stems_3 : decode method_5_code 3 = .ok (.invokevirtual 20, 3) := by decide +kernel
theorem d_La_stems_6 : decode method_5_code 6 = .ok (.i2l, 1) := by decide +kernel
theorem d_La_stems_7 : decode method_5_code 7 = .ok (.lastore, 1) := by decide +kernel
theorem d_La_stems_8 : decode method_5_code 8 = .ok (.goto 6, 3) := by decide +kernel
theorem d_La_stems_11 : decode method_5_code 11 = .ok (.astore_n 2, 1) := by decide +kernel
theorem d_La_stems_12 : decode method_5_code 12 = .ok (.iconst 1, 1) := by decide +kernel
theorem d_La_stems_13 : decode method_5_code 13 = .ok (.ireturn, 1) := by decide +kernel
theorem d_La_stems_14 : decode method_5_code 14 = .ok (.iconst 0, 1) := by decide +kernel
theorem d_La_stems_15 : decode method_5_code 15 = .ok (.ireturn, 1) := by decide +kernel
theorem d_La_product_0 : decode method_6_code 0 = .ok (.aload 7, 2) := by decide +kernel
theorem d_La_product_2 : decode method_6_code 2 = .ok (.iconst 0, 1) := by decide +kernel
theorem d_La_product_3 : decode method_6_code 3 = .ok (.aload_n 0, 1) := by decide +kernel
theorem d_La_product_4 : decode method_6_code 4 = .ok (.iload_n 1, 1) := by decide +kernel
theorem d_La_product_5 : decode method_6_code 5 = .ok (.iload_n 2, 1) := by decide +kernel
theorem d_La_product_6 : decode method_6_code 6 = .ok (.iload_n 3, 1) := by decide +kernel
theorem d_La_product_7 : decode method_6_code 7 = .ok (.iload 4, 2) := by decide +kernel
theorem d_La_product_9 : decode method_6_code 9 = .ok (.lload 5, 2) := by decide +kernel
theorem d_La_product_11 : decode method_6_code 11 = .ok (.invokevirtual 24, 3) := by decide +kernel
theorem d_La_product_14 : decode method_6_code 14 = .ok (.i2l, 1) := by decide +kernel
theorem d_La_product_15 : decode method_6_code 15 = .ok (.lastore, 1) := by decide +kernel
theorem d_La_product_16 : decode method_6_code 16 = .ok (.goto 11, 3) := by decide +kernel
theorem d_La_product_19 : decode method_6_code 19 = .ok (.astore 8, 2) := by decide +kernel
theorem d_La_product_21 : decode method_6_code 21 = .ok (.iconst 1, 1) := by decide +kernel
theorem d_La_product_22 : decode method_6_code 22 = .ok (.ireturn, 1) := by decide +kernel
theorem d_La_product_23 : decode method_6_code 23 = .ok (.astore 8, 2) := by decide +kernel
theorem d_La_product_25 : decode method_6_code 25 = .ok (.iconst 2, 1) := by decide +kernel
theorem d_La_product_26 : decode method_6_code 26 = .ok (.ireturn, 1) := by decide +kernel
theorem d_La_product_27 : decode method_6_code 27 = .ok (.iconst 0, 1) := by decide +kernel
theorem d_La_product_28 : decode method_6_code 28 = .ok (.ireturn, 1) := by decide +kernel
theorem d_La_bars_0 : decode method_7_code 0 = .ok (.aload_n 3, 1) := by decide +kernel
theorem d_La_bars_1 : decode method_7_code 1 = .ok (.iconst 0, 1) := by decide +kernel
theorem d_La_bars_2 : decode method_7_code 2 = .ok (.aload_n 0, 1) := by decide +kernel
theorem d_La_bars_3 : decode method_7_code 3 = .ok (.iload_n 1, 1) := by decide +kernel
theorem d_La_bars_4 : decode method_7_code 4 = .ok (.iload_n 2, 1) := by decide +kernel
theorem d_La_bars_5 : decode method_7_code 5 = .ok (.invokevirtual 28, 3) := by decide +kernel
theorem d_La_bars_8 : decode method_7_code 8 = .ok (.ifCond .eq 7, 3) := by decide +kernel
theorem d_La_bars_11 : decode method_7_code 11 = .ok (.lconst 1, 1) := by decide +kernel
theorem d_La_bars_12 : decode method_7_code 12 = .ok (.goto 4, 3) := by decide +kernel
theorem d_La_bars_15 : decode method_7_code 15 = .ok (.lconst 0, 1) := by decide +kernel
theorem d_La_bars_16 : decode method_7_code 16 = .ok (.lastore, 1) := by decide +kernel
theorem d_La_bars_17 : decode method_7_code 17 = .ok (.goto 11, 3) := by decide +kernel
theorem d_La_bars_20 : decode method_7_code 20 = .ok (.astore 4, 2) := by decide +kernel
theorem d_La_bars_22 : decode method_7_code 22 = .ok (.iconst 1, 1) := by decide +kernel
theorem d_La_bars_23 : decode method_7_code 23 = .ok (.ireturn, 1) := by decide +kernel
theorem d_La_bars_24 : decode method_7_code 24 = .ok (.astore 4, 2) := by decide +kernel
theorem d_La_bars_26 : decode method_7_code 26 = .ok (.iconst 2, 1) := by decide +kernel
theorem d_La_bars_27 : decode method_7_code 27 = .ok (.ireturn, 1) := by decide +kernel
theorem d_La_bars_28 : decode method_7_code 28 = .ok (.iconst 0, 1) := by decide +kernel
theorem d_La_bars_29 : decode method_7_code 29 = .ok (.ireturn, 1) := by decide +kernel
theorem d_La_force_0 : decode method_8_code 0 = .ok (.aload_n 2, 1) := by decide +kernel
theorem d_La_force_1 : decode method_8_code 1 = .ok (.iconst 0, 1) := by decide +kernel
theorem d_La_force_2 : decode method_8_code 2 = .ok (.aload_n 0, 1) := by decide +kernel
theorem d_La_force_3 : decode method_8_code 3 = .ok (.iload_n 1, 1) := by decide +kernel
theorem d_La_force_4 : decode method_8_code 4 = .ok (.invokevirtual 34, 3) := by decide +kernel
theorem d_La_force_7 : decode method_8_code 7 = .ok (.ifCond .eq 7, 3) := by decide +kernel
theorem d_La_force_10 : decode method_8_code 10 = .ok (.lconst 1, 1) := by decide +kernel
theorem d_La_force_11 : decode method_8_code 11 = .ok (.goto 4, 3) := by decide +kernel
theorem d_La_force_14 : decode method_8_code 14 = .ok (.lconst 0, 1) := by decide +kernel
theorem d_La_force_15 : decode method_8_code 15 = .ok (.lastore, 1) := by decide +kernel
theorem d_La_force_16 : decode method_8_code 16 = .ok (.goto 6, 3) := by decide +kernel
theorem d_La_force_19 : decode method_8_code 19 = .ok (.astore_n 3, 1) := by decide +kernel
theorem d_La_force_20 : decode method_8_code 20 = .ok (.iconst 1, 1) := by decide +kernel
theorem d_La_force_21 : decode method_8_code 21 = .ok (.ireturn, 1) := by decide +kernel
theorem d_La_force_22 : decode method_8_code 22 = .ok (.iconst 0, 1) := by decide +kernel
theorem d_La_force_23 : decode method_8_code 23 = .ok (.ireturn, 1) := by decide +kernel
theorem d_La_margin_0 : decode method_9_code 0 = .ok (.aload_n 2, 1) := by decide +kernel
theorem d_La_margin_1 : decode method_9_code 1 = .ok (.iconst 0, 1) := by decide +kernel
theorem d_La_margin_2 : decode method_9_code 2 = .ok (.aload_n 0, 1) := by decide +kernel
theorem d_La_margin_3 : decode method_9_code 3 = .ok (.iload_n 1, 1) := by decide +kernel
theorem d_La_margin_4 : decode method_9_code 4 = .ok (.invokevirtual 38, 3) := by decide +kernel
theorem d_La_margin_7 : decode method_9_code 7 = .ok (.ifCond .eq 7, 3) := by decide +kernel
theorem d_La_margin_10 : decode method_9_code 10 = .ok (.lconst 1, 1) := by decide +kernel
theorem d_La_margin_11 : decode method_9_code 11 = .ok (.goto 4, 3) := by decide +kernel
theorem d_La_margin_14 : decode method_9_code 14 = .ok (.lconst 0, 1) := by decide +kernel
theorem d_La_margin_15 : decode method_9_code 15 = .ok (.lastore, 1) := by decide +kernel
theorem d_La_margin_16 : decode method_9_code 16 = .ok (.goto 6, 3) := by decide +kernel
theorem d_La_margin_19 : decode method_9_code 19 = .ok (.astore_n 3, 1) := by decide +kernel
theorem d_La_margin_20 : decode method_9_code 20 = .ok (.iconst 1, 1) := by decide +kernel
theorem d_La_margin_21 : decode method_9_code 21 = .ok (.ireturn, 1) := by decide +kernel
theorem d_La_margin_22 : decode method_9_code 22 = .ok (.iconst 0, 1) := by decide +kernel
theorem d_La_margin_23 : decode method_9_code 23 = .ok (.ireturn, 1) := by decide +kernel
theorem d_La_saw_0 : decode method_10_code 0 = .ok (.aload_n 2, 1) := by decide +kernel
theorem d_La_saw_1 : decode method_10_code 1 = .ok (.iconst 0, 1) := by decide +kernel
theorem d_La_saw_2 : decode method_10_code 2 = .ok (.aload_n 0, 1) := by decide +kernel
theorem d_La_saw_3 : decode method_10_code 3 = .ok (.iload_n 1, 1) := by decide +kernel
theorem d_La_saw_4 : decode method_10_code 4 = .ok (.invokevirtual 41, 3) := by decide +kernel
theorem d_La_saw_7 : decode method_10_code 7 = .ok (.ifCond .eq 7, 3) := by decide +kernel
theorem d_La_saw_10 : decode method_10_code 10 = .ok (.lconst 1, 1) := by decide +kernel
theorem d_La_saw_11 : decode method_10_code 11 = .ok (.goto 4, 3) := by decide +kernel
theorem d_La_saw_14 : decode method_10_code 14 = .ok (.lconst 0, 1) := by decide +kernel
theorem d_La_saw_15 : decode method_10_code 15 = .ok (.lastore, 1) := by decide +kernel
theorem d_La_saw_16 : decode method_10_code 16 = .ok (.goto 6, 3) := by decide +kernel
theorem d_La_saw_19 : decode method_10_code 19 = .ok (.astore_n 3, 1) := by decide +kernel
theorem d_La_saw_20 : decode method_10_code 20 = .ok (.iconst 1, 1) := by decide +kernel
theorem d_La_saw_21 : decode method_10_code 21 = .ok (.ireturn, 1) := by decide +kernel
theorem d_La_saw_22 : decode method_10_code 22 = .ok (.iconst 0, 1) := by decide +kernel
theorem d_La_saw_23 : decode method_10_code 23 = .ok (.ireturn, 1) := by decide +kernel
theorem d_La_limit_0 : decode method_11_code 0 = .ok (.aload 4, 2) := by decide +kernel
theorem d_La_limit_2 : decode method_11_code 2 = .ok (.iconst 0, 1) := by decide +kernel
theorem d_La_limit_3 : decode method_11_code 3 = .ok (.aload_n 0, 1) := by decide +kernel
theorem d_La_limit_4 : decode method_11_code 4 = .ok (.iload_n 1, 1) := by decide +kernel
theorem d_La_limit_5 : decode method_11_code 5 = .ok (.lload_n 2, 1) := by decide +kernel
theorem d_La_limit_6 : decode method_11_code 6 = .ok (.invokevirtual 44, 3) := by decide +kernel
theorem d_La_limit_9 : decode method_11_code 9 = .ok (.ifCond .eq 7, 3) := by decide +kernel
theorem d_La_limit_12 : decode method_11_code 12 = .ok (.lconst 1, 1) := by decide +kernel
theorem d_La_limit_13 : decode method_11_code 13 = .ok (.goto 4, 3) := by decide +kernel
theorem d_La_limit_16 : decode method_11_code 16 = .ok (.lconst 0, 1) := by decide +kernel
theorem d_La_limit_17 : decode method_11_code 17 = .ok (.lastore, 1) := by decide +kernel
theorem d_La_limit_18 : decode method_11_code 18 = .ok (.goto 11, 3) := by decide +kernel
theorem d_La_limit_21 : decode method_11_code 21 = .ok (.astore 5, 2) := by decide +kernel
theorem d_La_limit_23 : decode method_11_code 23 = .ok (.iconst 1, 1) := by decide +kernel
theorem d_La_limit_24 : decode method_11_code 24 = .ok (.ireturn, 1) := by decide +kernel
theorem d_La_limit_25 : decode method_11_code 25 = .ok (.astore 5, 2) := by decide +kernel
theorem d_La_limit_27 : decode method_11_code 27 = .ok (.iconst 2, 1) := by decide +kernel
theorem d_La_limit_28 : decode method_11_code 28 = .ok (.ireturn, 1) := by decide +kernel
theorem d_La_limit_29 : decode method_11_code 29 = .ok (.iconst 0, 1) := by decide +kernel
theorem d_La_limit_30 : decode method_11_code 30 = .ok (.ireturn, 1) := by decide +kernel
theorem d_La_wish_0 : decode method_12_code 0 = .ok (.aload 5, 2) := by decide +kernel
theorem d_La_wish_2 : decode method_12_code 2 = .ok (.iconst 0, 1) := by decide +kernel
theorem d_La_wish_3 : decode method_12_code 3 = .ok (.aload_n 0, 1) := by decide +kernel
theorem d_La_wish_4 : decode method_12_code 4 = .ok (.iload_n 1, 1) := by decide +kernel
theorem d_La_wish_5 : decode method_12_code 5 = .ok (.iload_n 2, 1) := by decide +kernel
theorem d_La_wish_6 : decode method_12_code 6 = .ok (.lload_n 3, 1) := by decide +kernel
theorem d_La_wish_7 : decode method_12_code 7 = .ok (.invokevirtual 48, 3) := by decide +kernel
theorem d_La_wish_10 : decode method_12_code 10 = .ok (.ifCond .eq 7, 3) := by decide +kernel
theorem d_La_wish_13 : decode method_12_code 13 = .ok (.lconst 1, 1) := by decide +kernel
theorem d_La_wish_14 : decode method_12_code 14 = .ok (.goto 4, 3) := by decide +kernel
theorem d_La_wish_17 : decode method_12_code 17 = .ok (.lconst 0, 1) := by decide +kernel
theorem d_La_wish_18 : decode method_12_code 18 = .ok (.lastore, 1) := by decide +kernel
theorem d_La_wish_19 : decode method_12_code 19 = .ok (.goto 11, 3) := by decide +kernel
theorem d_La_wish_22 : decode method_12_code 22 = .ok (.astore 6, 2) := by decide +kernel
theorem d_La_wish_24 : decode method_12_code 24 = .ok (.iconst 1, 1) := by decide +kernel
theorem d_La_wish_25 : decode method_12_code 25 = .ok (.ireturn, 1) := by decide +kernel
theorem d_La_wish_26 : decode method_12_code 26 = .ok (.astore 6, 2) := by decide +kernel
theorem d_La_wish_28 : decode method_12_code 28 = .ok (.iconst 2, 1) := by decide +kernel
theorem d_La_wish_29 : decode method_12_code 29 = .ok (.ireturn, 1) := by decide +kernel
theorem d_La_wish_30 : decode method_12_code 30 = .ok (.iconst 0, 1) := by decide +kernel
theorem d_La_wish_31 : decode method_12_code 31 = .ok (.ireturn, 1) := by decide +kernel
theorem d_La_priced_0 : decode method_13_code 0 = .ok (.aload_n 2, 1) := by decide +kernel
theorem d_La_priced_1 : decode method_13_code 1 = .ok (.iconst 0, 1) := by decide +kernel
theorem d_La_priced_2 : decode method_13_code 2 = .ok (.aload_n 0, 1) := by decide +kernel
theorem d_La_priced_3 : decode method_13_code 3 = .ok (.iload_n 1, 1) := by decide +kernel
theorem d_La_priced_4 : decode method_13_code 4 = .ok (.invokevirtual 52, 3) := by decide +kernel
theorem d_La_priced_7 : decode method_13_code 7 = .ok (.i2l, 1) := by decide +kernel
theorem d_La_priced_8 : decode method_13_code 8 = .ok (.lastore, 1) := by decide +kernel
theorem d_La_priced_9 : decode method_13_code 9 = .ok (.goto 6, 3) := by decide +kernel
theorem d_La_priced_12 : decode method_13_code 12 = .ok (.astore_n 3, 1) := by decide +kernel
theorem d_La_priced_13 : decode method_13_code 13 = .ok (.iconst 1, 1) := by decide +kernel
theorem d_La_priced_14 : decode method_13_code 14 = .ok (.ireturn, 1) := by decide +kernel
theorem d_La_priced_15 : decode method_13_code 15 = .ok (.iconst 0, 1) := by decide +kernel
theorem d_La_priced_16 : decode method_13_code 16 = .ok (.ireturn, 1) := by decide +kernel
theorem d_La_worth_0 : decode method_14_code 0 = .ok (.aload_n 1, 1) := by decide +kernel
theorem d_La_worth_1 : decode method_14_code 1 = .ok (.iconst 0, 1) := by decide +kernel
theorem d_La_worth_2 : decode method_14_code 2 = .ok (.aload_n 0, 1) := by decide +kernel
theorem d_La_worth_3 : decode method_14_code 3 = .ok (.invokevirtual 56, 3) := by decide +kernel
theorem d_La_worth_6 : decode method_14_code 6 = .ok (.lastore, 1) := by decide +kernel
theorem d_La_worth_7 : decode method_14_code 7 = .ok (.goto 6, 3) := by decide +kernel
theorem d_La_worth_10 : decode method_14_code 10 = .ok (.astore_n 2, 1) := by decide +kernel
theorem d_La_worth_11 : decode method_14_code 11 = .ok (.iconst 1, 1) := by decide +kernel
theorem d_La_worth_12 : decode method_14_code 12 = .ok (.ireturn, 1) := by decide +kernel
theorem d_La_worth_13 : decode method_14_code 13 = .ok (.iconst 0, 1) := by decide +kernel
theorem d_La_worth_14 : decode method_14_code 14 = .ok (.ireturn, 1) := by decide +kernel
theorem d_La_log_0 : decode method_15_code 0 = .ok (.aload_n 3, 1) := by decide +kernel
theorem d_La_log_1 : decode method_15_code 1 = .ok (.iconst 0, 1) := by decide +kernel
theorem d_La_log_2 : decode method_15_code 2 = .ok (.aload_n 0, 1) := by decide +kernel
theorem d_La_log_3 : decode method_15_code 3 = .ok (.iload_n 1, 1) := by decide +kernel
theorem d_La_log_4 : decode method_15_code 4 = .ok (.iload_n 2, 1) := by decide +kernel
theorem d_La_log_5 : decode method_15_code 5 = .ok (.invokevirtual 60, 3) := by decide +kernel
theorem d_La_log_8 : decode method_15_code 8 = .ok (.i2l, 1) := by decide +kernel
theorem d_La_log_9 : decode method_15_code 9 = .ok (.lastore, 1) := by decide +kernel
theorem d_La_log_10 : decode method_15_code 10 = .ok (.goto 15, 3) := by decide +kernel
theorem d_La_log_13 : decode method_15_code 13 = .ok (.astore 4, 2) := by decide +kernel
theorem d_La_log_15 : decode method_15_code 15 = .ok (.iconst 1, 1) := by decide +kernel
theorem d_La_log_16 : decode method_15_code 16 = .ok (.ireturn, 1) := by decide +kernel
theorem d_La_log_17 : decode method_15_code 17 = .ok (.astore 4, 2) := by decide +kernel
theorem d_La_log_19 : decode method_15_code 19 = .ok (.iconst 2, 1) := by decide +kernel
theorem d_La_log_20 : decode method_15_code 20 = .ok (.ireturn, 1) := by decide +kernel
theorem d_La_log_21 : decode method_15_code 21 = .ok (.astore 4, 2) := by decide +kernel
theorem d_La_log_23 : decode method_15_code 23 = .ok (.iconst 3, 1) := by decide +kernel
theorem d_La_log_24 : decode method_15_code 24 = .ok (.ireturn, 1) := by decide +kernel
theorem d_La_log_25 : decode method_15_code 25 = .ok (.iconst 0, 1) := by decide +kernel
theorem d_La_log_26 : decode method_15_code 26 = .ok (.ireturn, 1) := by decide +kernel
theorem d_La_fuel_0 : decode method_16_code 0 = .ok (.aload_n 3, 1) := by decide +kernel
theorem d_La_fuel_1 : decode method_16_code 1 = .ok (.iconst 0, 1) := by decide +kernel
theorem d_La_fuel_2 : decode method_16_code 2 = .ok (.aload_n 0, 1) := by decide +kernel
theorem d_La_fuel_3 : decode method_16_code 3 = .ok (.iload_n 1, 1) := by decide +kernel
theorem d_La_fuel_4 : decode method_16_code 4 = .ok (.iload_n 2, 1) := by decide +kernel
theorem d_La_fuel_5 : decode method_16_code 5 = .ok (.invokevirtual 64, 3) := by decide +kernel
theorem d_La_fuel_8 : decode method_16_code 8 = .ok (.i2l, 1) := by decide +kernel
theorem d_La_fuel_9 : decode method_16_code 9 = .ok (.lastore, 1) := by decide +kernel
theorem d_La_fuel_10 : decode method_16_code 10 = .ok (.goto 15, 3) := by decide +kernel
theorem d_La_fuel_13 : decode method_16_code 13 = .ok (.astore 4, 2) := by decide +kernel
theorem d_La_fuel_15 : decode method_16_code 15 = .ok (.iconst 1, 1) := by decide +kernel
theorem d_La_fuel_16 : decode method_16_code 16 = .ok (.ireturn, 1) := by decide +kernel
theorem d_La_fuel_17 : decode method_16_code 17 = .ok (.astore 4, 2) := by decide +kernel
theorem d_La_fuel_19 : decode method_16_code 19 = .ok (.iconst 2, 1) := by decide +kernel
theorem d_La_fuel_20 : decode method_16_code 20 = .ok (.ireturn, 1) := by decide +kernel
theorem d_La_fuel_21 : decode method_16_code 21 = .ok (.astore 4, 2) := by decide +kernel
theorem d_La_fuel_23 : decode method_16_code 23 = .ok (.iconst 3, 1) := by decide +kernel
theorem d_La_fuel_24 : decode method_16_code 24 = .ok (.ireturn, 1) := by decide +kernel
theorem d_La_fuel_25 : decode method_16_code 25 = .ok (.iconst 0, 1) := by decide +kernel
theorem d_La_fuel_26 : decode method_16_code 26 = .ok (.ireturn, 1) := by decide +kernel
theorem d_La_bound_0 : decode method_17_code 0 = .ok (.aload_n 1, 1) := by decide +kernel
theorem d_La_bound_1 : decode method_17_code 1 = .ok (.iconst 0, 1) := by decide +kernel
theorem d_La_bound_2 : decode method_17_code 2 = .ok (.aload_n 0, 1) := by decide +kernel
theorem d_La_bound_3 : decode method_17_code 3 = .ok (.invokevirtual 67, 3) := by decide +kernel
theorem d_La_bound_6 : decode method_17_code 6 = .ok (.lastore, 1) := by decide +kernel
theorem d_La_bound_7 : decode method_17_code 7 = .ok (.goto 6, 3) := by decide +kernel
theorem d_La_bound_10 : decode method_17_code 10 = .ok (.astore_n 2, 1) := by decide +kernel
theorem d_La_bound_11 : decode method_17_code 11 = .ok (.iconst 1, 1) := by decide +kernel
theorem d_La_bound_12 : decode method_17_code 12 = .ok (.ireturn, 1) := by decide +kernel
theorem d_La_bound_13 : decode method_17_code 13 = .ok (.iconst 0, 1) := by decide +kernel
theorem d_La_bound_14 : decode method_17_code 14 = .ok (.ireturn, 1) := by decide +kernel
theorem d_La_price_0 : decode method_18_code 0 = .ok (.aload_n 3, 1) := by decide +kernel
theorem d_La_price_1 : decode method_18_code 1 = .ok (.iconst 0, 1) := by decide +kernel
theorem d_La_price_2 : decode method_18_code 2 = .ok (.aload_n 0, 1) := by decide +kernel
theorem d_La_price_3 : decode method_18_code 3 = .ok (.iload_n 1, 1) := by decide +kernel
theorem d_La_price_4 : decode method_18_code 4 = .ok (.iload_n 2, 1) := by decide +kernel
theorem d_La_price_5 : decode method_18_code 5 = .ok (.invokevirtual 70, 3) := by decide +kernel
theorem d_La_price_8 : decode method_18_code 8 = .ok (.lastore, 1) := by decide +kernel
theorem d_La_price_9 : decode method_18_code 9 = .ok (.goto 11, 3) := by decide +kernel
theorem d_La_price_12 : decode method_18_code 12 = .ok (.astore 4, 2) := by decide +kernel
theorem d_La_price_14 : decode method_18_code 14 = .ok (.iconst 1, 1) := by decide +kernel
theorem d_La_price_15 : decode method_18_code 15 = .ok (.ireturn, 1) := by decide +kernel
theorem d_La_price_16 : decode method_18_code 16 = .ok (.astore 4, 2) := by decide +kernel
theorem d_La_price_18 : decode method_18_code 18 = .ok (.iconst 2, 1) := by decide +kernel
theorem d_La_price_19 : decode method_18_code 19 = .ok (.ireturn, 1) := by decide +kernel
theorem d_La_price_20 : decode method_18_code 20 = .ok (.iconst 0, 1) := by decide +kernel
theorem d_La_price_21 : decode method_18_code 21 = .ok (.ireturn, 1) := by decide +kernel
theorem d_La_override_0 : decode method_19_code 0 = .ok (.aload_n 2, 1) := by decide +kernel
theorem d_La_override_1 : decode method_19_code 1 = .ok (.iconst 0, 1) := by decide +kernel
theorem d_La_override_2 : decode method_19_code 2 = .ok (.aload_n 0, 1) := by decide +kernel
theorem d_La_override_3 : decode method_19_code 3 = .ok (.iload_n 1, 1) := by decide +kernel
theorem d_La_override_4 : decode method_19_code 4 = .ok (.invokevirtual 74, 3) := by decide +kernel
theorem d_La_override_7 : decode method_19_code 7 = .ok (.i2l, 1) := by decide +kernel
theorem d_La_override_8 : decode method_19_code 8 = .ok (.lastore, 1) := by decide +kernel
theorem d_La_override_9 : decode method_19_code 9 = .ok (.goto 9, 3) := by decide +kernel
theorem d_La_override_12 : decode method_19_code 12 = .ok (.astore_n 3, 1) := by decide +kernel
theorem d_La_override_13 : decode method_19_code 13 = .ok (.iconst 1, 1) := by decide +kernel
theorem d_La_override_14 : decode method_19_code 14 = .ok (.ireturn, 1) := by decide +kernel
theorem d_La_override_15 : decode method_19_code 15 = .ok (.astore_n 3, 1) := by decide +kernel
theorem d_La_override_16 : decode method_19_code 16 = .ok (.iconst 2, 1) := by decide +kernel
theorem d_La_override_17 : decode method_19_code 17 = .ok (.ireturn, 1) := by decide +kernel
theorem d_La_override_18 : decode method_19_code 18 = .ok (.iconst 0, 1) := by decide +kernel
theorem d_La_override_19 : decode method_19_code 19 = .ok (.ireturn, 1) := by decide +kernel
theorem d_La_greatest_0 : decode method_20_code 0 = .ok (.aload_n 1, 1) := by decide +kernel
theorem d_La_greatest_1 : decode method_20_code 1 = .ok (.iconst 0, 1) := by decide +kernel
theorem d_La_greatest_2 : decode method_20_code 2 = .ok (.aload_n 0, 1) := by decide +kernel
theorem d_La_greatest_3 : decode method_20_code 3 = .ok (.invokevirtual 77, 3) := by decide +kernel
theorem d_La_greatest_6 : decode method_20_code 6 = .ok (.ifCond .eq 7, 3) := by decide +kernel
theorem d_La_greatest_9 : decode method_20_code 9 = .ok (.lconst 1, 1) := by decide +kernel
theorem d_La_greatest_10 : decode method_20_code 10 = .ok (.goto 4, 3) := by decide +kernel
theorem d_La_greatest_13 : decode method_20_code 13 = .ok (.lconst 0, 1) := by decide +kernel
theorem d_La_greatest_14 : decode method_20_code 14 = .ok (.lastore, 1) := by decide +kernel
theorem d_La_greatest_15 : decode method_20_code 15 = .ok (.goto 6, 3) := by decide +kernel
theorem d_La_greatest_18 : decode method_20_code 18 = .ok (.astore_n 2, 1) := by decide +kernel
theorem d_La_greatest_19 : decode method_20_code 19 = .ok (.iconst 1, 1) := by decide +kernel
theorem d_La_greatest_20 : decode method_20_code 20 = .ok (.ireturn, 1) := by decide +kernel
theorem d_La_greatest_21 : decode method_20_code 21 = .ok (.iconst 0, 1) := by decide +kernel
theorem d_La_greatest_22 : decode method_20_code 22 = .ok (.ireturn, 1) := by decide +kernel
