/-! THE FIRST CALL: runs that loop -/
theorem ar_bars : ∃ v : Int32, jEnds 206 [] SC0 (.int v) ∧ jEnds 342 [] SR0 (.int v) := ⟨0, oI_ends (n := 20000) rfl (by decide +kernel), oI_ends (n := 20000) rfl (by decide +kernel)⟩
theorem ar_plan : ∃ v : Int32, jEnds 211 [] SC0 (.int v) ∧ jEnds 356 [] SR0 (.int v) := ⟨0, oI_ends (n := 40000) rfl (by decide +kernel), oI_ends (n := 40000) rfl (by decide +kernel)⟩
theorem ar_lead : ∃ v : Int32, jEnds 208 [] SC0 (.int v) ∧ jEnds 348 [] SR0 (.int v) := ⟨0, oI_ends (n := 90000) rfl (by decide +kernel), oI_ends (n := 90000) rfl (by decide +kernel)⟩
theorem kq_along : ∀ j, j < 3 → ∀ i, i < 16 → (kL (jrun jTT jMM 9000 1900 198 0 (j_ent (jMM 198).2 [.ref 0, .int (nI (j + 3)), .int (nI i)]) [] SC0) 0 shC && kL (jrun jTT jMM 9000 1900 328 0 (j_ent (jMM 328).2 [.ref 0, .int (nI (j + 3)), .int (nI i)]) [] SR0) 0 shR) = true := by decide +kernel
theorem kz_along (j : Nat) (hj : j < 3) (i : Nat) (hi : i < 16) : ∃ v : Int64, jEnds 198 [.int (nI (j + 3)), .int (nI i)] SC0 (.long v) ∧ jEnds 328 [.int (nI (j + 3)), .int (nI i)] SR0 (.long v) := ⟨0, kL_ends rfl (Bool.and_eq_true_iff.mp (kq_along j hj i hi)).1, kL_ends rfl (Bool.and_eq_true_iff.mp (kq_along j hj i hi)).2⟩
theorem kc_open : ∀ j, j < 3 → kI (jrunO 300 1900 168 0 (j_ent (jMM 168).2 [.ref 0, .int (nI j)]) [] SC0) 0 shC = true := by decide +kernel
theorem kc_crash : kI (jrunO 300 1900 181 0 (j_ent (jMM 181).2 [.ref 0, .int 0]) [] SC0) 0 shC = true := by decide +kernel
