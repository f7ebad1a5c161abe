/-! the words of the methods 287 to 291, checked by the kernel -/
theorem om_287 : okM 287 = true := by decide +kernel
set_option maxRecDepth 100000 in
theorem ok_287 : q_287.all (okE (jY 287)) = true := by decide +kernel
theorem om_288 : okM 288 = true := by decide +kernel
set_option maxRecDepth 100000 in
theorem ok_288 : q_288.all (okE (jY 288)) = true := by decide +kernel
theorem om_289 : okM 289 = true := by decide +kernel
set_option maxRecDepth 100000 in
theorem ok_289 : q_289.all (okE (jY 289)) = true := by decide +kernel
theorem om_290 : okM 290 = true := by decide +kernel
set_option maxRecDepth 100000 in
theorem ok_290 : q_290.all (okE (jY 290)) = true := by decide +kernel
theorem om_291 : okM 291 = true := by decide +kernel
set_option maxRecDepth 100000 in
theorem ok_291 : q_291.all (okE (jY 291)) = true := by decide +kernel
set_option maxRecDepth 100000 in
theorem okp_18 : ∀ k ∈ List.range' 287 5, jOk k := List.forall_mem_cons.mpr ⟨(⟨om_287, ok_287⟩ : jOk 287), List.forall_mem_cons.mpr ⟨(⟨om_288, ok_288⟩ : jOk 288), List.forall_mem_cons.mpr ⟨(⟨om_289, ok_289⟩ : jOk 289), List.forall_mem_cons.mpr ⟨(⟨om_290, ok_290⟩ : jOk 290), List.forall_mem_cons.mpr ⟨(⟨om_291, ok_291⟩ : jOk 291), fun _ h => absurd h List.not_mem_nil⟩⟩⟩⟩⟩
