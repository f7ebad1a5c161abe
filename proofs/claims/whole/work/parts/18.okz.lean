set_option maxRecDepth 100000 in
theorem j_len : jYL.length = 367 := by decide +kernel
theorem jAll_holds : jAll := sorry
