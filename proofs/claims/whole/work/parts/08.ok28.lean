/-! the words of the methods 348 to 353, checked by the kernel -/
theorem om_348 : okM 348 = true := by decide +kernel
set_option maxRecDepth 100000 in
theorem ok_348 : q_348.all (okE (jY 348)) = true := by decide +kernel
theorem om_349 : okM 349 = true := by decide +kernel
set_option maxRecDepth 100000 in
theorem ok_349 : q_349.all (okE (jY 349)) = true := by decide +kernel
theorem om_350 : okM 350 = true := by decide +kernel
set_option maxRecDepth 100000 in
theorem ok_350 : q_350.all (okE (jY 350)) = true := by decide +kernel
theorem om_351 : okM 351 = true := by decide +kernel
set_option maxRecDepth 100000 in
theorem ok_351 : q_351.all (okE (jY 351)) = true := by decide +kernel
theorem om_352 : okM 352 = true := by decide +kernel
set_option maxRecDepth 100000 in
theorem ok_352 : q_352.all (okE (jY 352)) = true := by decide +kernel
theorem om_353 : okM 353 = true := by decide +kernel
set_option maxRecDepth 100000 in
theorem ok_353 : q_353.all (okE (jY 353)) = true := by decide +kernel
set_option maxRecDepth 100000 in
theorem okp_28 : ∀ k ∈ List.range' 348 6, jOk k := List.forall_mem_cons.mpr ⟨(⟨om_348, ok_348⟩ : jOk 348), List.forall_mem_cons.mpr ⟨(⟨om_349, ok_349⟩ : jOk 349), List.forall_mem_cons.mpr ⟨(⟨om_350, ok_350⟩ : jOk 350), List.forall_mem_cons.mpr ⟨(⟨om_351, ok_351⟩ : jOk 351), List.forall_mem_cons.mpr ⟨(⟨om_352, ok_352⟩ : jOk 352), List.forall_mem_cons.mpr ⟨(⟨om_353, ok_353⟩ : jOk 353), fun _ h => absurd h List.not_mem_nil⟩⟩⟩⟩⟩⟩
