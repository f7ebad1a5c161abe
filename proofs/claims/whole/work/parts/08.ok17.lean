/-! the words of the methods 283 to 286, checked by the kernel -/
theorem om_283 : okM 283 = true := by decide +kernel
set_option maxRecDepth 100000 in
theorem ok_283 : q_283.all (okE (jY 283)) = true := by decide +kernel
theorem om_284 : okM 284 = true := by decide +kernel
set_option maxRecDepth 100000 in
theorem ok_284 : q_284.all (okE (jY 284)) = true := by decide +kernel
theorem om_285 : okM 285 = true := by decide +kernel
set_option maxRecDepth 100000 in
theorem ok_285 : q_285.all (okE (jY 285)) = true := by decide +kernel
theorem om_286 : okM 286 = true := by decide +kernel
set_option maxRecDepth 100000 in
theorem ok_286 : q_286.all (okE (jY 286)) = true := by decide +kernel
set_option maxRecDepth 100000 in
theorem okp_17 : ∀ k ∈ List.range' 283 4, jOk k := List.forall_mem_cons.mpr ⟨(⟨om_283, ok_283⟩ : jOk 283), List.forall_mem_cons.mpr ⟨(⟨om_284, ok_284⟩ : jOk 284), List.forall_mem_cons.mpr ⟨(⟨om_285, ok_285⟩ : jOk 285), List.forall_mem_cons.mpr ⟨(⟨om_286, ok_286⟩ : jOk 286), fun _ h => absurd h List.not_mem_nil⟩⟩⟩⟩
