/-! the words of the methods 332 to 337, checked by the kernel -/
theorem om_332 : okM 332 = true := by decide +kernel
set_option maxRecDepth 100000 in
theorem ok_332 : q_332.all (okE (jY 332)) = true := by decide +kernel
theorem om_333 : okM 333 = true := by decide +kernel
set_option maxRecDepth 100000 in
theorem ok_333 : q_333.all (okE (jY 333)) = true := by decide +kernel
theorem om_334 : okM 334 = true := by decide +kernel
set_option maxRecDepth 100000 in
theorem ok_334 : q_334.all (okE (jY 334)) = true := by decide +kernel
theorem om_335 : okM 335 = true := by decide +kernel
set_option maxRecDepth 100000 in
theorem ok_335 : q_335.all (okE (jY 335)) = true := by decide +kernel
theorem om_336 : okM 336 = true := by decide +kernel
set_option maxRecDepth 100000 in
theorem ok_336 : q_336.all (okE (jY 336)) = true := by decide +kernel
theorem om_337 : okM 337 = true := by decide +kernel
set_option maxRecDepth 100000 in
theorem ok_337 : q_337.all (okE (jY 337)) = true := by decide +kernel
set_option maxRecDepth 100000 in
theorem okp_25 : ∀ k ∈ List.range' 332 6, jOk k := List.forall_mem_cons.mpr ⟨(⟨om_332, ok_332⟩ : jOk 332), List.forall_mem_cons.mpr ⟨(⟨om_333, ok_333⟩ : jOk 333), List.forall_mem_cons.mpr ⟨(⟨om_334, ok_334⟩ : jOk 334), List.forall_mem_cons.mpr ⟨(⟨om_335, ok_335⟩ : jOk 335), List.forall_mem_cons.mpr ⟨(⟨om_336, ok_336⟩ : jOk 336), List.forall_mem_cons.mpr ⟨(⟨om_337, ok_337⟩ : jOk 337), fun _ h => absurd h List.not_mem_nil⟩⟩⟩⟩⟩⟩
