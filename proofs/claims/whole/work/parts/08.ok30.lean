/-! the words of the methods 360 to 365, checked by the kernel -/
theorem om_360 : okM 360 = true := by decide +kernel
set_option maxRecDepth 100000 in
theorem ok_360 : q_360.all (okE (jY 360)) = true := by decide +kernel
theorem om_361 : okM 361 = true := by decide +kernel
set_option maxRecDepth 100000 in
theorem ok_361 : q_361.all (okE (jY 361)) = true := by decide +kernel
theorem om_362 : okM 362 = true := by decide +kernel
set_option maxRecDepth 100000 in
theorem ok_362 : q_362.all (okE (jY 362)) = true := by decide +kernel
theorem om_363 : okM 363 = true := by decide +kernel
set_option maxRecDepth 100000 in
theorem ok_363 : q_363.all (okE (jY 363)) = true := by decide +kernel
theorem om_364 : okM 364 = true := by decide +kernel
set_option maxRecDepth 100000 in
theorem ok_364 : q_364.all (okE (jY 364)) = true := by decide +kernel
theorem om_365 : okM 365 = true := by decide +kernel
set_option maxRecDepth 100000 in
theorem ok_365 : q_365.all (okE (jY 365)) = true := by decide +kernel
theorem om_366 : okM 366 = true := by decide +kernel
set_option maxRecDepth 100000 in
theorem ok_366 : q_366.all (okE (jY 366)) = true := by decide +kernel
set_option maxRecDepth 100000 in
theorem okp_30 : ∀ k ∈ List.range' 360 7, jOk k := List.forall_mem_cons.mpr ⟨(⟨om_360, ok_360⟩ : jOk 360), List.forall_mem_cons.mpr ⟨(⟨om_361, ok_361⟩ : jOk 361), List.forall_mem_cons.mpr ⟨(⟨om_362, ok_362⟩ : jOk 362), List.forall_mem_cons.mpr ⟨(⟨om_363, ok_363⟩ : jOk 363), List.forall_mem_cons.mpr ⟨(⟨om_364, ok_364⟩ : jOk 364), List.forall_mem_cons.mpr ⟨(⟨om_365, ok_365⟩ : jOk 365), List.forall_mem_cons.mpr ⟨(⟨om_366, ok_366⟩ : jOk 366), fun _ h => absurd h List.not_mem_nil⟩⟩⟩⟩⟩⟩⟩
