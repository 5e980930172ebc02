theorem d_Wi_init_0 : decode prog_6_method_1_code 0 = .ok (.aload_n 0, 1) := by decide +kernel
theorem d_Wi_init_1 : decode prog_6_method_1_code 1 = .ok (.invokespecial 3, 3) := by decide +kernel
theorem d_Wi_init_4 : decode prog_6_method_1_code 4 = .ok (.aload_n 0, 1) := by decide +kernel
theorem d_Wi_init_5 : decode prog_6_method_1_code 5 = .ok (.bipush 80, 2) := by decide +kernel
theorem d_Wi_init_7 : decode prog_6_method_1_code 7 = .ok (.newarray .long, 2) := by decide +kernel
theorem d_Wi_init_9 : decode prog_6_method_1_code 9 = .ok (.putfield 9, 3) := by decide +kernel
theorem d_Wi_init_12 : decode prog_6_method_1_code 12 = .ok (.aload_n 0, 1) := by decide +kernel
theorem d_Wi_init_13 : decode prog_6_method_1_code 13 = .ok (.iconst 0, 1) := by decide +kernel
theorem d_Wi_init_14 : decode prog_6_method_1_code 14 = .ok (.putfield 15, 3) := by decide +kernel
theorem d_Wi_init_17 : decode prog_6_method_1_code 17 = .ok (.aload_n 0, 1) := by decide +kernel
theorem d_Wi_init_18 : decode prog_6_method_1_code 18 = .ok (.iconst 0, 1) := by decide +kernel
theorem d_Wi_init_19 : decode prog_6_method_1_code 19 = .ok (.putfield 19, 3) := by decide +kernel
theorem d_Wi_init_22 : decode prog_6_method_1_code 22 = .ok (.return_, 1) := by decide +kernel
theorem d_Wi_clear_0 : decode prog_6_method_2_code 0 = .ok (.aload_n 0, 1) := by decide +kernel
theorem d_Wi_clear_1 : decode prog_6_method_2_code 1 = .ok (.iconst 0, 1) := by decide +kernel
theorem d_Wi_clear_2 : decode prog_6_method_2_code 2 = .ok (.putfield 15, 3) := by decide +kernel
theorem d_Wi_clear_5 : decode prog_6_method_2_code 5 = .ok (.aload_n 0, 1) := by decide +kernel
theorem d_Wi_clear_6 : decode prog_6_method_2_code 6 = .ok (.iconst 0, 1) := by decide +kernel
theorem d_Wi_clear_7 : decode prog_6_method_2_code 7 = .ok (.putfield 19, 3) := by decide +kernel
theorem d_Wi_clear_10 : decode prog_6_method_2_code 10 = .ok (.return_, 1) := by decide +kernel
theorem d_Wi_enter_0 : decode prog_6_method_3_code 0 = .ok (.aload_n 0, 1) := by decide +kernel
theorem d_Wi_enter_1 : decode prog_6_method_3_code 1 = .ok (.getfield 19, 3) := by decide +kernel
theorem d_Wi_enter_4 : decode prog_6_method_3_code 4 = .ok (.aload_n 0, 1) := by decide +kernel
theorem d_Wi_enter_5 : decode prog_6_method_3_code 5 = .ok (.getfield 15, 3) := by decide +kernel
theorem d_Wi_enter_8 : decode prog_6_method_3_code 8 = .ok (.if_icmp .le 32, 3) := by decide +kernel
theorem d_Wi_enter_11 : decode prog_6_method_3_code 11 = .ok (.aload_n 0, 1) := by decide +kernel
theorem d_Wi_enter_12 : decode prog_6_method_3_code 12 = .ok (.getfield 9, 3) := by decide +kernel
theorem d_Wi_enter_15 : decode prog_6_method_3_code 15 = .ok (.aload_n 0, 1) := by decide +kernel
theorem d_Wi_enter_16 : decode prog_6_method_3_code 16 = .ok (.getfield 19, 3) := by decide +kernel
theorem d_Wi_enter_19 : decode prog_6_method_3_code 19 = .ok (.iconst 1, 1) := by decide +kernel
theorem d_Wi_enter_20 : decode prog_6_method_3_code 20 = .ok (.isub, 1) := by decide +kernel
theorem d_Wi_enter_21 : decode prog_6_method_3_code 21 = .ok (.laload, 1) := by decide +kernel
theorem d_Wi_enter_22 : decode prog_6_method_3_code 22 = .ok (.lload_n 1, 1) := by decide +kernel
theorem d_Wi_enter_23 : decode prog_6_method_3_code 23 = .ok (.lcmp, 1) := by decide +kernel
theorem d_Wi_enter_24 : decode prog_6_method_3_code 24 = .ok (.ifCond .ge 16, 3) := by decide +kernel
theorem d_Wi_enter_27 : decode prog_6_method_3_code 27 = .ok (.aload_n 0, 1) := by decide +kernel
theorem d_Wi_enter_28 : decode prog_6_method_3_code 28 = .ok (.dup, 1) := by decide +kernel
theorem d_Wi_enter_29 : decode prog_6_method_3_code 29 = .ok (.getfield 19, 3) := by decide +kernel
theorem d_Wi_enter_32 : decode prog_6_method_3_code 32 = .ok (.iconst 1, 1) := by decide +kernel
theorem d_Wi_enter_33 : decode prog_6_method_3_code 33 = .ok (.isub, 1) := by decide +kernel
theorem d_Wi_enter_34 : decode prog_6_method_3_code 34 = .ok (.putfield 19, 3) := by decide +kernel
theorem d_Wi_enter_37 : decode prog_6_method_3_code 37 = .ok (.goto (-37), 3) := by decide +kernel
theorem d_Wi_enter_40 : decode prog_6_method_3_code 40 = .ok (.aload_n 0, 1) := by decide +kernel
theorem d_Wi_enter_41 : decode prog_6_method_3_code 41 = .ok (.getfield 19, 3) := by decide +kernel
theorem d_Wi_enter_44 : decode prog_6_method_3_code 44 = .ok (.aload_n 0, 1) := by decide +kernel
theorem d_Wi_enter_45 : decode prog_6_method_3_code 45 = .ok (.getfield 9, 3) := by decide +kernel
theorem d_Wi_enter_48 : decode prog_6_method_3_code 48 = .ok (.arraylength, 1) := by decide +kernel
theorem d_Wi_enter_49 : decode prog_6_method_3_code 49 = .ok (.if_icmp .ge 23, 3) := by decide +kernel
theorem d_Wi_enter_52 : decode prog_6_method_3_code 52 = .ok (.aload_n 0, 1) := by decide +kernel
theorem d_Wi_enter_53 : decode prog_6_method_3_code 53 = .ok (.getfield 9, 3) := by decide +kernel
theorem d_Wi_enter_56 : decode prog_6_method_3_code 56 = .ok (.aload_n 0, 1) := by decide +kernel
theorem d_Wi_enter_57 : decode prog_6_method_3_code 57 = .ok (.getfield 19, 3) := by decide +kernel
theorem d_Wi_enter_60 : decode prog_6_method_3_code 60 = .ok (.lload_n 1, 1) := by decide +kernel
theorem d_Wi_enter_61 : decode prog_6_method_3_code 61 = .ok (.lastore, 1) := by decide +kernel
theorem d_Wi_enter_62 : decode prog_6_method_3_code 62 = .ok (.aload_n 0, 1) := by decide +kernel
theorem d_Wi_enter_63 : decode prog_6_method_3_code 63 = .ok (.dup, 1) := by decide +kernel
theorem d_Wi_enter_64 : decode prog_6_method_3_code 64 = .ok (.getfield 19, 3) := by decide +kernel
theorem d_Wi_enter_67 : decode prog_6_method_3_code 67 = .ok (.iconst 1, 1) := by decide +kernel
theorem d_Wi_enter_68 : decode prog_6_method_3_code 68 = .ok (.iadd, 1) := by decide +kernel
theorem d_Wi_enter_69 : decode prog_6_method_3_code 69 = .ok (.putfield 19, 3) := by decide +kernel
theorem d_Wi_enter_72 : decode prog_6_method_3_code 72 = .ok (.return_, 1) := by decide +kernel
theorem d_Wi_leaveBeyond_0 : decode prog_6_method_4_code 0 = .ok (.aload_n 0, 1) := by decide +kernel
theorem d_Wi_leaveBeyond_1 : decode prog_6_method_4_code 1 = .ok (.getfield 15, 3) := by decide +kernel
theorem d_Wi_leaveBeyond_4 : decode prog_6_method_4_code 4 = .ok (.aload_n 0, 1) := by decide +kernel
theorem d_Wi_leaveBeyond_5 : decode prog_6_method_4_code 5 = .ok (.getfield 19, 3) := by decide +kernel
theorem d_Wi_leaveBeyond_8 : decode prog_6_method_4_code 8 = .ok (.if_icmp .ge 32, 3) := by decide +kernel
theorem d_Wi_leaveBeyond_11 : decode prog_6_method_4_code 11 = .ok (.aload_n 0, 1) := by decide +kernel
theorem d_Wi_leaveBeyond_12 : decode prog_6_method_4_code 12 = .ok (.getfield 9, 3) := by decide +kernel
theorem d_Wi_leaveBeyond_15 : decode prog_6_method_4_code 15 = .ok (.aload_n 0, 1) := by decide +kernel
theorem d_Wi_leaveBeyond_16 : decode prog_6_method_4_code 16 = .ok (.getfield 15, 3) := by decide +kernel
theorem d_Wi_leaveBeyond_19 : decode prog_6_method_4_code 19 = .ok (.laload, 1) := by decide +kernel
theorem d_Wi_leaveBeyond_20 : decode prog_6_method_4_code 20 = .ok (.invokestatic 22, 3) := by decide +kernel
theorem d_Wi_leaveBeyond_23 : decode prog_6_method_4_code 23 = .ok (.iload_n 1, 1) := by decide +kernel
theorem d_Wi_leaveBeyond_24 : decode prog_6_method_4_code 24 = .ok (.if_icmp .le 16, 3) := by decide +kernel
theorem d_Wi_leaveBeyond_27 : decode prog_6_method_4_code 27 = .ok (.aload_n 0, 1) := by decide +kernel
theorem d_Wi_leaveBeyond_28 : decode prog_6_method_4_code 28 = .ok (.dup, 1) := by decide +kernel
theorem d_Wi_leaveBeyond_29 : decode prog_6_method_4_code 29 = .ok (.getfield 15, 3) := by decide +kernel
theorem d_Wi_leaveBeyond_32 : decode prog_6_method_4_code 32 = .ok (.iconst 1, 1) := by decide +kernel
theorem d_Wi_leaveBeyond_33 : decode prog_6_method_4_code 33 = .ok (.iadd, 1) := by decide +kernel
theorem d_Wi_leaveBeyond_34 : decode prog_6_method_4_code 34 = .ok (.putfield 15, 3) := by decide +kernel
theorem d_Wi_leaveBeyond_37 : decode prog_6_method_4_code 37 = .ok (.goto (-37), 3) := by decide +kernel
theorem d_Wi_leaveBeyond_40 : decode prog_6_method_4_code 40 = .ok (.return_, 1) := by decide +kernel
