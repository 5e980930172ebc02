/-! THE END -/
theorem law_pure : LawPure := fun L xs hL => law_at L xs hL
theorem i_vc : Claimed_1_1 ∧ Claimed_1_2 := i_vc_open law_pure
