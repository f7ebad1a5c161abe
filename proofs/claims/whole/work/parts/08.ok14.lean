/-! the words of the methods 261 to 265, checked by the kernel -/
theorem om_261 : okM 261 = true := by decide +kernel
set_option maxRecDepth 100000 in
theorem ok_261 : q_261.all (okE (jY 261)) = true := by decide +kernel
theorem om_262 : okM 262 = true := by decide +kernel
set_option maxRecDepth 100000 in
theorem ok_262 : q_262.all (okE (jY 262)) = true := by decide +kernel
theorem om_263 : okM 263 = true := by decide +kernel
set_option maxRecDepth 100000 in
theorem ok_263 : q_263.all (okE (jY 263)) = true := by decide +kernel
theorem om_264 : okM 264 = true := by decide +kernel
set_option maxRecDepth 100000 in
theorem ok_264 : q_264.all (okE (jY 264)) = true := by decide +kernel
theorem om_265 : okM 265 = true := by decide +kernel
set_option maxRecDepth 100000 in
theorem ok_265 : q_265.all (okE (jY 265)) = true := by decide +kernel
set_option maxRecDepth 100000 in
theorem okp_14 : ∀ k ∈ List.range' 261 5, jOk k := List.forall_mem_cons.mpr ⟨(⟨om_261, ok_261⟩ : jOk 261), List.forall_mem_cons.mpr ⟨(⟨om_262, ok_262⟩ : jOk 262), List.forall_mem_cons.mpr ⟨(⟨om_263, ok_263⟩ : jOk 263), List.forall_mem_cons.mpr ⟨(⟨om_264, ok_264⟩ : jOk 264), List.forall_mem_cons.mpr ⟨(⟨om_265, ok_265⟩ : jOk 265), fun _ h => absurd h List.not_mem_nil⟩⟩⟩⟩⟩
