set_option maxRecDepth 100000 in
theorem xin_BT_98_102 : ∀ w ∈ Cond.classLink "BuckTables" 98 "java/lang/IllegalArgumentException" :: Cond.initialized "java/lang/IllegalArgumentException" :: Bundle.ownAtoms "BuckTables" 102 "java/lang/IllegalArgumentException" ["java/lang/RuntimeException", "java/lang/Exception"], (w ∈ lw_tbl ∧ xwk w = true) ∨ w ∈ thrW := by decide +kernel
set_option maxRecDepth 100000 in
theorem xin_BT_83_87 : ∀ w ∈ Cond.classLink "BuckTables" 83 "java/lang/IllegalStateException" :: Cond.initialized "java/lang/IllegalStateException" :: Bundle.ownAtoms "BuckTables" 87 "java/lang/IllegalStateException" ["java/lang/RuntimeException", "java/lang/Exception"], (w ∈ lw_tbl ∧ xwk w = true) ∨ w ∈ thrW := by decide +kernel
set_option maxRecDepth 100000 in
theorem xin_BT_210_214 : ∀ w ∈ Cond.classLink "BuckTables" 210 "java/lang/IndexOutOfBoundsException" :: Cond.initialized "java/lang/IndexOutOfBoundsException" :: Bundle.ownAtoms "BuckTables" 214 "java/lang/IndexOutOfBoundsException" ["java/lang/RuntimeException", "java/lang/Exception"], (w ∈ lw_tbl ∧ xwk w = true) ∨ w ∈ thrW := by decide +kernel
