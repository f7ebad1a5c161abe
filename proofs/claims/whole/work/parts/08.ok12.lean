/-! the words of the methods 243 to 247, checked by the kernel -/
theorem om_243 : okM 243 = true := by decide +kernel
set_option maxRecDepth 100000 in
theorem ok_243 : q_243.all (okE (jY 243)) = true := by decide +kernel
theorem om_244 : okM 244 = true := by decide +kernel
set_option maxRecDepth 100000 in
theorem ok_244 : q_244.all (okE (jY 244)) = true := by decide +kernel
theorem om_245 : okM 245 = true := by decide +kernel
set_option maxRecDepth 100000 in
theorem ok_245 : q_245.all (okE (jY 245)) = true := by decide +kernel
theorem om_246 : okM 246 = true := by decide +kernel
set_option maxRecDepth 100000 in
theorem ok_246 : q_246.all (okE (jY 246)) = true := by decide +kernel
theorem om_247 : okM 247 = true := by decide +kernel
set_option maxRecDepth 100000 in
theorem ok_247 : q_247.all (okE (jY 247)) = true := by decide +kernel
set_option maxRecDepth 100000 in
theorem okp_12 : ∀ k ∈ List.range' 243 5, jOk k := List.forall_mem_cons.mpr ⟨(⟨om_243, ok_243⟩ : jOk 243), List.forall_mem_cons.mpr ⟨(⟨om_244, ok_244⟩ : jOk 244), List.forall_mem_cons.mpr ⟨(⟨om_245, ok_245⟩ : jOk 245), List.forall_mem_cons.mpr ⟨(⟨om_246, ok_246⟩ : jOk 246), List.forall_mem_cons.mpr ⟨(⟨om_247, ok_247⟩ : jOk 247), fun _ h => absurd h List.not_mem_nil⟩⟩⟩⟩⟩
