/-! the words of the methods 248 to 260, checked by the kernel -/
theorem om_248 : okM 248 = true := by decide +kernel
set_option maxRecDepth 100000 in
theorem ok_248 : q_248.all (okE (jY 248)) = true := by decide +kernel
theorem om_249 : okM 249 = true := by decide +kernel
set_option maxRecDepth 100000 in
theorem ok_249 : q_249.all (okE (jY 249)) = true := by decide +kernel
theorem om_250 : okM 250 = true := by decide +kernel
set_option maxRecDepth 100000 in
theorem ok_250 : q_250.all (okE (jY 250)) = true := by decide +kernel
theorem om_251 : okM 251 = true := by decide +kernel
set_option maxRecDepth 100000 in
theorem ok_251 : q_251.all (okE (jY 251)) = true := by decide +kernel
theorem om_252 : okM 252 = true := by decide +kernel
set_option maxRecDepth 100000 in
theorem ok_252 : q_252.all (okE (jY 252)) = true := by decide +kernel
theorem om_253 : okM 253 = true := by decide +kernel
set_option maxRecDepth 100000 in
theorem ok_253 : q_253.all (okE (jY 253)) = true := by decide +kernel
theorem om_254 : okM 254 = true := by decide +kernel
set_option maxRecDepth 100000 in
theorem ok_254 : q_254.all (okE (jY 254)) = true := by decide +kernel
theorem om_255 : okM 255 = true := by decide +kernel
set_option maxRecDepth 100000 in
theorem ok_255 : q_255.all (okE (jY 255)) = true := by decide +kernel
theorem om_256 : okM 256 = true := by decide +kernel
set_option maxRecDepth 100000 in
theorem ok_256 : q_256.all (okE (jY 256)) = true := by decide +kernel
theorem om_257 : okM 257 = true := by decide +kernel
set_option maxRecDepth 100000 in
theorem ok_257 : q_257.all (okE (jY 257)) = true := by decide +kernel
theorem om_258 : okM 258 = true := by decide +kernel
set_option maxRecDepth 100000 in
theorem ok_258 : q_258.all (okE (jY 258)) = true := by decide +kernel
theorem om_259 : okM 259 = true := by decide +kernel
set_option maxRecDepth 100000 in
theorem ok_259 : q_259.all (okE (jY 259)) = true := by decide +kernel
theorem om_260 : okM 260 = true := by decide +kernel
set_option maxRecDepth 100000 in
theorem ok_260 : q_260.all (okE (jY 260)) = true := by decide +kernel
set_option maxRecDepth 100000 in
theorem okp_13 : ∀ k ∈ List.range' 248 13, jOk k := List.forall_mem_cons.mpr ⟨(⟨om_248, ok_248⟩ : jOk 248), List.forall_mem_cons.mpr ⟨(⟨om_249, ok_249⟩ : jOk 249), List.forall_mem_cons.mpr ⟨(⟨om_250, ok_250⟩ : jOk 250), List.forall_mem_cons.mpr ⟨(⟨om_251, ok_251⟩ : jOk 251), List.forall_mem_cons.mpr ⟨(⟨om_252, ok_252⟩ : jOk 252), List.forall_mem_cons.mpr ⟨(⟨om_253, ok_253⟩ : jOk 253), List.forall_mem_cons.mpr ⟨(⟨om_254, ok_254⟩ : jOk 254), List.forall_mem_cons.mpr ⟨(⟨om_255, ok_255⟩ : jOk 255), List.forall_mem_cons.mpr ⟨(⟨om_256, ok_256⟩ : jOk 256), List.forall_mem_cons.mpr ⟨(⟨om_257, ok_257⟩ : jOk 257), List.forall_mem_cons.mpr ⟨(⟨om_258, ok_258⟩ : jOk 258), List.forall_mem_cons.mpr ⟨(⟨om_259, ok_259⟩ : jOk 259), List.forall_mem_cons.mpr ⟨(⟨om_260, ok_260⟩ : jOk 260), fun _ h => absurd h List.not_mem_nil⟩⟩⟩⟩⟩⟩⟩⟩⟩⟩⟩⟩⟩
