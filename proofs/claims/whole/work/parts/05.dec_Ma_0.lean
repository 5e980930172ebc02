theorem d_Ma_floorDiv_0 : decode prog_13_method_49_code 0 = .ok (.lload_n 0, 1) := by decide +kernel
theorem d_Ma_floorDiv_1 : decode prog_13_method_49_code 1 = .ok (.lload_n 2, 1) := by decide +kernel
theorem d_Ma_floorDiv_2 : decode prog_13_method_49_code 2 = .ok (.ldiv, 1) := by decide +kernel
theorem d_Ma_floorDiv_3 : decode prog_13_method_49_code 3 = .ok (.lstore 4, 2) := by decide +kernel
theorem d_Ma_floorDiv_5 : decode prog_13_method_49_code 5 = .ok (.lload_n 0, 1) := by decide +kernel
theorem d_Ma_floorDiv_6 : decode prog_13_method_49_code 6 = .ok (.lload_n 2, 1) := by decide +kernel
theorem d_Ma_floorDiv_7 : decode prog_13_method_49_code 7 = .ok (.lxor, 1) := by decide +kernel
theorem d_Ma_floorDiv_8 : decode prog_13_method_49_code 8 = .ok (.lconst 0, 1) := by decide +kernel
theorem d_Ma_floorDiv_9 : decode prog_13_method_49_code 9 = .ok (.lcmp, 1) := by decide +kernel
theorem d_Ma_floorDiv_10 : decode prog_13_method_49_code 10 = .ok (.ifCond .ge 17, 3) := by decide +kernel
theorem d_Ma_floorDiv_13 : decode prog_13_method_49_code 13 = .ok (.lload 4, 2) := by decide +kernel
theorem d_Ma_floorDiv_15 : decode prog_13_method_49_code 15 = .ok (.lload_n 2, 1) := by decide +kernel
theorem d_Ma_floorDiv_16 : decode prog_13_method_49_code 16 = .ok (.lmul, 1) := by decide +kernel
theorem d_Ma_floorDiv_17 : decode prog_13_method_49_code 17 = .ok (.lload_n 0, 1) := by decide +kernel
theorem d_Ma_floorDiv_18 : decode prog_13_method_49_code 18 = .ok (.lcmp, 1) := by decide +kernel
theorem d_Ma_floorDiv_19 : decode prog_13_method_49_code 19 = .ok (.ifCond .eq 8, 3) := by decide +kernel
theorem d_Ma_floorDiv_22 : decode prog_13_method_49_code 22 = .ok (.lload 4, 2) := by decide +kernel
theorem d_Ma_floorDiv_24 : decode prog_13_method_49_code 24 = .ok (.lconst 1, 1) := by decide +kernel
theorem d_Ma_floorDiv_25 : decode prog_13_method_49_code 25 = .ok (.lsub, 1) := by decide +kernel
theorem d_Ma_floorDiv_26 : decode prog_13_method_49_code 26 = .ok (.lreturn, 1) := by decide +kernel
theorem d_Ma_floorDiv_27 : decode prog_13_method_49_code 27 = .ok (.lload 4, 2) := by decide +kernel
theorem d_Ma_floorDiv_29 : decode prog_13_method_49_code 29 = .ok (.lreturn, 1) := by decide +kernel
theorem d_Ma_floorMod_0 : decode prog_13_method_52_code 0 = .ok (.lload_n 0, 1) := by decide +kernel
theorem d_Ma_floorMod_1 : decode prog_13_method_52_code 1 = .ok (.lload_n 2, 1) := by decide +kernel
theorem d_Ma_floorMod_2 : decode prog_13_method_52_code 2 = .ok (.lrem, 1) := by decide +kernel
theorem d_Ma_floorMod_3 : decode prog_13_method_52_code 3 = .ok (.lstore 4, 2) := by decide +kernel
theorem d_Ma_floorMod_5 : decode prog_13_method_52_code 5 = .ok (.lload_n 0, 1) := by decide +kernel
theorem d_Ma_floorMod_6 : decode prog_13_method_52_code 6 = .ok (.lload_n 2, 1) := by decide +kernel
theorem d_Ma_floorMod_7 : decode prog_13_method_52_code 7 = .ok (.lxor, 1) := by decide +kernel
theorem d_Ma_floorMod_8 : decode prog_13_method_52_code 8 = .ok (.lconst 0, 1) := by decide +kernel
theorem d_Ma_floorMod_9 : decode prog_13_method_52_code 9 = .ok (.lcmp, 1) := by decide +kernel
theorem d_Ma_floorMod_10 : decode prog_13_method_52_code 10 = .ok (.ifCond .ge 15, 3) := by decide +kernel
theorem d_Ma_floorMod_13 : decode prog_13_method_52_code 13 = .ok (.lload 4, 2) := by decide +kernel
theorem d_Ma_floorMod_15 : decode prog_13_method_52_code 15 = .ok (.lconst 0, 1) := by decide +kernel
theorem d_Ma_floorMod_16 : decode prog_13_method_52_code 16 = .ok (.lcmp, 1) := by decide +kernel
theorem d_Ma_floorMod_17 : decode prog_13_method_52_code 17 = .ok (.ifCond .eq 8, 3) := by decide +kernel
theorem d_Ma_floorMod_20 : decode prog_13_method_52_code 20 = .ok (.lload 4, 2) := by decide +kernel
theorem d_Ma_floorMod_22 : decode prog_13_method_52_code 22 = .ok (.lload_n 2, 1) := by decide +kernel
theorem d_Ma_floorMod_23 : decode prog_13_method_52_code 23 = .ok (.ladd, 1) := by decide +kernel
theorem d_Ma_floorMod_24 : decode prog_13_method_52_code 24 = .ok (.lreturn, 1) := by decide +kernel
theorem d_Ma_floorMod_25 : decode prog_13_method_52_code 25 = .ok (.lload 4, 2) := by decide +kernel
theorem d_Ma_floorMod_27 : decode prog_13_method_52_code 27 = .ok (.lreturn, 1) := by decide +kernel
