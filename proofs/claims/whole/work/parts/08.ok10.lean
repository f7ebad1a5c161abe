/-! the words of the methods 225 to 233, checked by the kernel -/
theorem om_225 : okM 225 = true := by decide +kernel
set_option maxRecDepth 100000 in
theorem ok_225 : q_225.all (okE (jY 225)) = true := by decide +kernel
theorem om_226 : okM 226 = true := by decide +kernel
set_option maxRecDepth 100000 in
theorem ok_226 : q_226.all (okE (jY 226)) = true := by decide +kernel
theorem om_227 : okM 227 = true := by decide +kernel
set_option maxRecDepth 100000 in
theorem ok_227 : q_227.all (okE (jY 227)) = true := by decide +kernel
theorem om_228 : okM 228 = true := by decide +kernel
set_option maxRecDepth 100000 in
theorem ok_228 : q_228.all (okE (jY 228)) = true := by decide +kernel
theorem om_229 : okM 229 = true := by decide +kernel
set_option maxRecDepth 100000 in
theorem ok_229 : q_229.all (okE (jY 229)) = true := by decide +kernel
theorem om_230 : okM 230 = true := by decide +kernel
set_option maxRecDepth 100000 in
theorem ok_230 : q_230.all (okE (jY 230)) = true := by decide +kernel
theorem om_231 : okM 231 = true := by decide +kernel
set_option maxRecDepth 100000 in
theorem ok_231 : q_231.all (okE (jY 231)) = true := by decide +kernel
theorem om_232 : okM 232 = true := by decide +kernel
set_option maxRecDepth 100000 in
theorem ok_232 : q_232.all (okE (jY 232)) = true := by decide +kernel
theorem om_233 : okM 233 = true := by decide +kernel
set_option maxRecDepth 100000 in
theorem ok_233 : q_233.all (okE (jY 233)) = true := by decide +kernel
set_option maxRecDepth 100000 in
theorem okp_10 : ∀ k ∈ List.range' 225 9, jOk k := List.forall_mem_cons.mpr ⟨(⟨om_225, ok_225⟩ : jOk 225), List.forall_mem_cons.mpr ⟨(⟨om_226, ok_226⟩ : jOk 226), List.forall_mem_cons.mpr ⟨(⟨om_227, ok_227⟩ : jOk 227), List.forall_mem_cons.mpr ⟨(⟨om_228, ok_228⟩ : jOk 228), List.forall_mem_cons.mpr ⟨(⟨om_229, ok_229⟩ : jOk 229), List.forall_mem_cons.mpr ⟨(⟨om_230, ok_230⟩ : jOk 230), List.forall_mem_cons.mpr ⟨(⟨om_231, ok_231⟩ : jOk 231), List.forall_mem_cons.mpr ⟨(⟨om_232, ok_232⟩ : jOk 232), List.forall_mem_cons.mpr ⟨(⟨om_233, ok_233⟩ : jOk 233), fun _ h => absurd h List.not_mem_nil⟩⟩⟩⟩⟩⟩⟩⟩⟩
