/-! the numbers that stand in the code -/
theorem LI_m1 : (-1 : Int32) = Int32.ofInt (-1) := by decide
theorem LI_m1r : rI (-1) := by decide
theorem LJ_m1 : (-1 : Int64) = Int64.ofInt (-1) := by decide
theorem LJ_m1r : rJ (-1) := by decide
theorem LI_0 : (0 : Int32) = Int32.ofInt 0 := by decide
theorem LI_0r : rI 0 := by decide
theorem LJ_0 : (0 : Int64) = Int64.ofInt 0 := by decide
theorem LJ_0r : rJ 0 := by decide
theorem LI_1 : (1 : Int32) = Int32.ofInt 1 := by decide
theorem LI_1r : rI 1 := by decide
theorem LJ_1 : (1 : Int64) = Int64.ofInt 1 := by decide
theorem LJ_1r : rJ 1 := by decide
theorem LI_2 : (2 : Int32) = Int32.ofInt 2 := by decide
theorem LI_2r : rI 2 := by decide
theorem LJ_2 : (2 : Int64) = Int64.ofInt 2 := by decide
theorem LJ_2r : rJ 2 := by decide
theorem LI_3 : (3 : Int32) = Int32.ofInt 3 := by decide
theorem LI_3r : rI 3 := by decide
theorem LJ_3 : (3 : Int64) = Int64.ofInt 3 := by decide
theorem LJ_3r : rJ 3 := by decide
theorem LI_4 : (4 : Int32) = Int32.ofInt 4 := by decide
theorem LI_4r : rI 4 := by decide
theorem LJ_4 : (4 : Int64) = Int64.ofInt 4 := by decide
theorem LJ_4r : rJ 4 := by decide
theorem LI_5 : (5 : Int32) = Int32.ofInt 5 := by decide
theorem LI_5r : rI 5 := by decide
theorem LI_6 : (6 : Int32) = Int32.ofInt 6 := by decide
theorem LI_6r : rI 6 := by decide
theorem LJ_6 : (6 : Int64) = Int64.ofInt 6 := by decide
theorem LJ_6r : rJ 6 := by decide
theorem LI_7 : (7 : Int32) = Int32.ofInt 7 := by decide
theorem LI_7r : rI 7 := by decide
theorem LJ_7 : (7 : Int64) = Int64.ofInt 7 := by decide
theorem LJ_7r : rJ 7 := by decide
theorem LI_8 : (8 : Int32) = Int32.ofInt 8 := by decide
theorem LI_8r : rI 8 := by decide
theorem LI_10 : (10 : Int32) = Int32.ofInt 10 := by decide
theorem LI_10r : rI 10 := by decide
theorem LJ_10 : (10 : Int64) = Int64.ofInt 10 := by decide
theorem LJ_10r : rJ 10 := by decide
theorem LI_20 : (20 : Int32) = Int32.ofInt 20 := by decide
theorem LI_20r : rI 20 := by decide
theorem LI_60 : (60 : Int32) = Int32.ofInt 60 := by decide
theorem LI_60r : rI 60 := by decide
theorem LI_80 : (80 : Int32) = Int32.ofInt 80 := by decide
theorem LI_80r : rI 80 := by decide
theorem LI_81 : (81 : Int32) = Int32.ofInt 81 := by decide
theorem LI_81r : rI 81 := by decide
theorem LJ_128 : (128 : Int64) = Int64.ofInt 128 := by decide
theorem LJ_128r : rJ 128 := by decide
theorem LI_486 : (486 : Int32) = Int32.ofInt 486 := by decide
theorem LI_486r : rI 486 := by decide
theorem LJ_1000 : (1000 : Int64) = Int64.ofInt 1000 := by decide
theorem LJ_1000r : rJ 1000 := by decide
theorem LI_1024 : (1024 : Int32) = Int32.ofInt 1024 := by decide
theorem LI_1024r : rI 1024 := by decide
theorem LJ_100000 : (100000 : Int64) = Int64.ofInt 100000 := by decide
theorem LJ_100000r : rJ 100000 := by decide
theorem LI_10000000 : (10000000 : Int32) = Int32.ofInt 10000000 := by decide
theorem LI_10000000r : rI 10000000 := by decide
theorem LJ_10000000 : (10000000 : Int64) = Int64.ofInt 10000000 := by decide
theorem LJ_10000000r : rJ 10000000 := by decide
