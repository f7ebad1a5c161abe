/-! the words of the methods 342 to 347, checked by the kernel -/
theorem om_342 : okM 342 = true := by decide +kernel
set_option maxRecDepth 100000 in
theorem ok_342 : q_342.all (okE (jY 342)) = true := by decide +kernel
theorem om_343 : okM 343 = true := by decide +kernel
set_option maxRecDepth 100000 in
theorem ok_343 : q_343.all (okE (jY 343)) = true := by decide +kernel
theorem om_344 : okM 344 = true := by decide +kernel
set_option maxRecDepth 100000 in
theorem ok_344 : q_344.all (okE (jY 344)) = true := by decide +kernel
theorem om_345 : okM 345 = true := by decide +kernel
set_option maxRecDepth 100000 in
theorem ok_345 : q_345.all (okE (jY 345)) = true := by decide +kernel
theorem om_346 : okM 346 = true := by decide +kernel
set_option maxRecDepth 100000 in
theorem ok_346 : q_346.all (okE (jY 346)) = true := by decide +kernel
theorem om_347 : okM 347 = true := by decide +kernel
set_option maxRecDepth 100000 in
theorem ok_347 : q_347.all (okE (jY 347)) = true := by decide +kernel
set_option maxRecDepth 100000 in
theorem okp_27 : ∀ k ∈ List.range' 342 6, jOk k := List.forall_mem_cons.mpr ⟨(⟨om_342, ok_342⟩ : jOk 342), List.forall_mem_cons.mpr ⟨(⟨om_343, ok_343⟩ : jOk 343), List.forall_mem_cons.mpr ⟨(⟨om_344, ok_344⟩ : jOk 344), List.forall_mem_cons.mpr ⟨(⟨om_345, ok_345⟩ : jOk 345), List.forall_mem_cons.mpr ⟨(⟨om_346, ok_346⟩ : jOk 346), List.forall_mem_cons.mpr ⟨(⟨om_347, ok_347⟩ : jOk 347), fun _ h => absurd h List.not_mem_nil⟩⟩⟩⟩⟩⟩
