/-! the words of the methods 354 to 359, checked by the kernel -/
theorem om_354 : okM 354 = true := by decide +kernel
set_option maxRecDepth 100000 in
theorem ok_354 : q_354.all (okE (jY 354)) = true := by decide +kernel
theorem om_355 : okM 355 = true := by decide +kernel
set_option maxRecDepth 100000 in
theorem ok_355 : q_355.all (okE (jY 355)) = true := by decide +kernel
theorem om_356 : okM 356 = true := by decide +kernel
set_option maxRecDepth 100000 in
theorem ok_356 : q_356.all (okE (jY 356)) = true := by decide +kernel
theorem om_357 : okM 357 = true := by decide +kernel
set_option maxRecDepth 100000 in
theorem ok_357 : q_357.all (okE (jY 357)) = true := by decide +kernel
theorem om_358 : okM 358 = true := by decide +kernel
set_option maxRecDepth 100000 in
theorem ok_358 : q_358.all (okE (jY 358)) = true := by decide +kernel
theorem om_359 : okM 359 = true := by decide +kernel
set_option maxRecDepth 100000 in
theorem ok_359 : q_359.all (okE (jY 359)) = true := by decide +kernel
set_option maxRecDepth 100000 in
theorem okp_29 : ∀ k ∈ List.range' 354 6, jOk k := List.forall_mem_cons.mpr ⟨(⟨om_354, ok_354⟩ : jOk 354), List.forall_mem_cons.mpr ⟨(⟨om_355, ok_355⟩ : jOk 355), List.forall_mem_cons.mpr ⟨(⟨om_356, ok_356⟩ : jOk 356), List.forall_mem_cons.mpr ⟨(⟨om_357, ok_357⟩ : jOk 357), List.forall_mem_cons.mpr ⟨(⟨om_358, ok_358⟩ : jOk 358), List.forall_mem_cons.mpr ⟨(⟨om_359, ok_359⟩ : jOk 359), fun _ h => absurd h List.not_mem_nil⟩⟩⟩⟩⟩⟩
