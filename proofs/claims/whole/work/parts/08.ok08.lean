/-! the words of the methods 240 to 269, checked by the kernel -/
theorem om_240 : okM 240 = true := by decide +kernel
set_option maxRecDepth 100000 in
theorem ok_240 : q_240.all (okE (jY 240)) = true := by decide +kernel
theorem om_241 : okM 241 = true := by decide +kernel
set_option maxRecDepth 100000 in
theorem ok_241 : q_241.all (okE (jY 241)) = true := by decide +kernel
theorem om_242 : okM 242 = true := by decide +kernel
set_option maxRecDepth 100000 in
theorem ok_242 : q_242.all (okE (jY 242)) = true := by decide +kernel
theorem om_243 : okM 243 = true := by decide +kernel
set_option maxRecDepth 100000 in
theorem ok_243 : q_243.all (okE (jY 243)) = true := by decide +kernel
theorem om_244 : okM 244 = true := by decide +kernel
set_option maxRecDepth 100000 in
theorem ok_244 : q_244.all (okE (jY 244)) = true := by decide +kernel
theorem om_245 : okM 245 = true := by decide +kernel
set_option maxRecDepth 100000 in
theorem ok_245 : q_245.all (okE (jY 245)) = true := by decide +kernel
theorem om_246 : okM 246 = true := by decide +kernel
set_option maxRecDepth 100000 in
theorem ok_246 : q_246.all (okE (jY 246)) = true := by decide +kernel
theorem om_247 : okM 247 = true := by decide +kernel
set_option maxRecDepth 100000 in
theorem ok_247 : q_247.all (okE (jY 247)) = true := by decide +kernel
theorem om_248 : okM 248 = true := by decide +kernel
set_option maxRecDepth 100000 in
theorem ok_248 : q_248.all (okE (jY 248)) = true := by decide +kernel
theorem om_249 : okM 249 = true := by decide +kernel
set_option maxRecDepth 100000 in
theorem ok_249 : q_249.all (okE (jY 249)) = true := by decide +kernel
theorem om_250 : okM 250 = true := by decide +kernel
set_option maxRecDepth 100000 in
theorem ok_250 : q_250.all (okE (jY 250)) = true := by decide +kernel
theorem om_251 : okM 251 = true := by decide +kernel
set_option maxRecDepth 100000 in
theorem ok_251 : q_251.all (okE (jY 251)) = true := by decide +kernel
theorem om_252 : okM 252 = true := by decide +kernel
set_option maxRecDepth 100000 in
theorem ok_252 : q_252.all (okE (jY 252)) = true := by decide +kernel
theorem om_253 : okM 253 = true := by decide +kernel
set_option maxRecDepth 100000 in
theorem ok_253 : q_253.all (okE (jY 253)) = true := by decide +kernel
theorem om_254 : okM 254 = true := by decide +kernel
set_option maxRecDepth 100000 in
theorem ok_254 : q_254.all (okE (jY 254)) = true := by decide +kernel
theorem om_255 : okM 255 = true := by decide +kernel
set_option maxRecDepth 100000 in
theorem ok_255 : q_255.all (okE (jY 255)) = true := by decide +kernel
theorem om_256 : okM 256 = true := by decide +kernel
set_option maxRecDepth 100000 in
theorem ok_256 : q_256.all (okE (jY 256)) = true := by decide +kernel
theorem om_257 : okM 257 = true := by decide +kernel
set_option maxRecDepth 100000 in
theorem ok_257 : q_257.all (okE (jY 257)) = true := by decide +kernel
theorem om_258 : okM 258 = true := by decide +kernel
set_option maxRecDepth 100000 in
theorem ok_258 : q_258.all (okE (jY 258)) = true := by decide +kernel
theorem om_259 : okM 259 = true := by decide +kernel
set_option maxRecDepth 100000 in
theorem ok_259 : q_259.all (okE (jY 259)) = true := by decide +kernel
theorem om_260 : okM 260 = true := by decide +kernel
set_option maxRecDepth 100000 in
theorem ok_260 : q_260.all (okE (jY 260)) = true := by decide +kernel
theorem om_261 : okM 261 = true := by decide +kernel
set_option maxRecDepth 100000 in
theorem ok_261 : q_261.all (okE (jY 261)) = true := by decide +kernel
theorem om_262 : okM 262 = true := by decide +kernel
set_option maxRecDepth 100000 in
theorem ok_262 : q_262.all (okE (jY 262)) = true := by decide +kernel
theorem om_263 : okM 263 = true := by decide +kernel
set_option maxRecDepth 100000 in
theorem ok_263 : q_263.all (okE (jY 263)) = true := by decide +kernel
theorem om_264 : okM 264 = true := by decide +kernel
set_option maxRecDepth 100000 in
theorem ok_264 : q_264.all (okE (jY 264)) = true := by decide +kernel
theorem om_265 : okM 265 = true := by decide +kernel
set_option maxRecDepth 100000 in
theorem ok_265 : q_265.all (okE (jY 265)) = true := by decide +kernel
theorem om_266 : okM 266 = true := by decide +kernel
set_option maxRecDepth 100000 in
theorem ok_266 : q_266.all (okE (jY 266)) = true := by decide +kernel
theorem om_267 : okM 267 = true := by decide +kernel
set_option maxRecDepth 100000 in
theorem ok_267 : q_267.all (okE (jY 267)) = true := by decide +kernel
theorem om_268 : okM 268 = true := by decide +kernel
set_option maxRecDepth 100000 in
theorem ok_268 : q_268.all (okE (jY 268)) = true := by decide +kernel
theorem om_269 : okM 269 = true := by decide +kernel
set_option maxRecDepth 100000 in
theorem ok_269 : q_269.all (okE (jY 269)) = true := by decide +kernel
set_option maxRecDepth 100000 in
theorem okp_8 : ∀ k ∈ List.range' 240 30, jOk k := List.forall_mem_cons.mpr ⟨(⟨om_240, ok_240⟩ : jOk 240), List.forall_mem_cons.mpr ⟨(⟨om_241, ok_241⟩ : jOk 241), List.forall_mem_cons.mpr ⟨(⟨om_242, ok_242⟩ : jOk 242), List.forall_mem_cons.mpr ⟨(⟨om_243, ok_243⟩ : jOk 243), List.forall_mem_cons.mpr ⟨(⟨om_244, ok_244⟩ : jOk 244), List.forall_mem_cons.mpr ⟨(⟨om_245, ok_245⟩ : jOk 245), List.forall_mem_cons.mpr ⟨(⟨om_246, ok_246⟩ : jOk 246), List.forall_mem_cons.mpr ⟨(⟨om_247, ok_247⟩ : jOk 247), List.forall_mem_cons.mpr ⟨(⟨om_248, ok_248⟩ : jOk 248), List.forall_mem_cons.mpr ⟨(⟨om_249, ok_249⟩ : jOk 249), List.forall_mem_cons.mpr ⟨(⟨om_250, ok_250⟩ : jOk 250), List.forall_mem_cons.mpr ⟨(⟨om_251, ok_251⟩ : jOk 251), List.forall_mem_cons.mpr ⟨(⟨om_252, ok_252⟩ : jOk 252), List.forall_mem_cons.mpr ⟨(⟨om_253, ok_253⟩ : jOk 253), List.forall_mem_cons.mpr ⟨(⟨om_254, ok_254⟩ : jOk 254), List.forall_mem_cons.mpr ⟨(⟨om_255, ok_255⟩ : jOk 255), List.forall_mem_cons.mpr ⟨(⟨om_256, ok_256⟩ : jOk 256), List.forall_mem_cons.mpr ⟨(⟨om_257, ok_257⟩ : jOk 257), List.forall_mem_cons.mpr ⟨(⟨om_258, ok_258⟩ : jOk 258), List.forall_mem_cons.mpr ⟨(⟨om_259, ok_259⟩ : jOk 259), List.forall_mem_cons.mpr ⟨(⟨om_260, ok_260⟩ : jOk 260), List.forall_mem_cons.mpr ⟨(⟨om_261, ok_261⟩ : jOk 261), List.forall_mem_cons.mpr ⟨(⟨om_262, ok_262⟩ : jOk 262), List.forall_mem_cons.mpr ⟨(⟨om_263, ok_263⟩ : jOk 263), List.forall_mem_cons.mpr ⟨(⟨om_264, ok_264⟩ : jOk 264), List.forall_mem_cons.mpr ⟨(⟨om_265, ok_265⟩ : jOk 265), List.forall_mem_cons.mpr ⟨(⟨om_266, ok_266⟩ : jOk 266), List.forall_mem_cons.mpr ⟨(⟨om_267, ok_267⟩ : jOk 267), List.forall_mem_cons.mpr ⟨(⟨om_268, ok_268⟩ : jOk 268), List.forall_mem_cons.mpr ⟨(⟨om_269, ok_269⟩ : jOk 269), fun _ h => absurd h List.not_mem_nil⟩⟩⟩⟩⟩⟩⟩⟩⟩⟩⟩⟩⟩⟩⟩⟩⟩⟩⟩⟩⟩⟩⟩⟩⟩⟩⟩⟩⟩⟩
