/-! the words of the methods 270 to 299, checked by the kernel -/
theorem om_270 : okM 270 = true := by decide +kernel
set_option maxRecDepth 100000 in
theorem ok_270 : q_270.all (okE (jY 270)) = true := by decide +kernel
theorem om_271 : okM 271 = true := by decide +kernel
set_option maxRecDepth 100000 in
theorem ok_271 : q_271.all (okE (jY 271)) = true := by decide +kernel
theorem om_272 : okM 272 = true := by decide +kernel
set_option maxRecDepth 100000 in
theorem ok_272 : q_272.all (okE (jY 272)) = true := by decide +kernel
theorem om_273 : okM 273 = true := by decide +kernel
set_option maxRecDepth 100000 in
theorem ok_273 : q_273.all (okE (jY 273)) = true := by decide +kernel
theorem om_274 : okM 274 = true := by decide +kernel
set_option maxRecDepth 100000 in
theorem ok_274 : q_274.all (okE (jY 274)) = true := by decide +kernel
theorem om_275 : okM 275 = true := by decide +kernel
set_option maxRecDepth 100000 in
theorem ok_275 : q_275.all (okE (jY 275)) = true := by decide +kernel
theorem om_276 : okM 276 = true := by decide +kernel
set_option maxRecDepth 100000 in
theorem ok_276 : q_276.all (okE (jY 276)) = true := by decide +kernel
theorem om_277 : okM 277 = true := by decide +kernel
set_option maxRecDepth 100000 in
theorem ok_277 : q_277.all (okE (jY 277)) = true := by decide +kernel
theorem om_278 : okM 278 = true := by decide +kernel
set_option maxRecDepth 100000 in
theorem ok_278 : q_278.all (okE (jY 278)) = true := by decide +kernel
theorem om_279 : okM 279 = true := by decide +kernel
set_option maxRecDepth 100000 in
theorem ok_279 : q_279.all (okE (jY 279)) = true := by decide +kernel
theorem om_280 : okM 280 = true := by decide +kernel
set_option maxRecDepth 100000 in
theorem ok_280 : q_280.all (okE (jY 280)) = true := by decide +kernel
theorem om_281 : okM 281 = true := by decide +kernel
set_option maxRecDepth 100000 in
theorem ok_281 : q_281.all (okE (jY 281)) = true := by decide +kernel
theorem om_282 : okM 282 = true := by decide +kernel
set_option maxRecDepth 100000 in
theorem ok_282 : q_282.all (okE (jY 282)) = true := by decide +kernel
theorem om_283 : okM 283 = true := by decide +kernel
set_option maxRecDepth 100000 in
theorem ok_283 : q_283.all (okE (jY 283)) = true := by decide +kernel
theorem om_284 : okM 284 = true := by decide +kernel
set_option maxRecDepth 100000 in
theorem ok_284 : q_284.all (okE (jY 284)) = true := by decide +kernel
theorem om_285 : okM 285 = true := by decide +kernel
set_option maxRecDepth 100000 in
theorem ok_285 : q_285.all (okE (jY 285)) = true := by decide +kernel
theorem om_286 : okM 286 = true := by decide +kernel
set_option maxRecDepth 100000 in
theorem ok_286 : q_286.all (okE (jY 286)) = true := by decide +kernel
theorem om_287 : okM 287 = true := by decide +kernel
set_option maxRecDepth 100000 in
theorem ok_287 : q_287.all (okE (jY 287)) = true := by decide +kernel
theorem om_288 : okM 288 = true := by decide +kernel
set_option maxRecDepth 100000 in
theorem ok_288 : q_288.all (okE (jY 288)) = true := by decide +kernel
theorem om_289 : okM 289 = true := by decide +kernel
set_option maxRecDepth 100000 in
theorem ok_289 : q_289.all (okE (jY 289)) = true := by decide +kernel
theorem om_290 : okM 290 = true := by decide +kernel
set_option maxRecDepth 100000 in
theorem ok_290 : q_290.all (okE (jY 290)) = true := by decide +kernel
theorem om_291 : okM 291 = true := by decide +kernel
set_option maxRecDepth 100000 in
theorem ok_291 : q_291.all (okE (jY 291)) = true := by decide +kernel
theorem om_292 : okM 292 = true := by decide +kernel
set_option maxRecDepth 100000 in
theorem ok_292 : q_292.all (okE (jY 292)) = true := by decide +kernel
theorem om_293 : okM 293 = true := by decide +kernel
set_option maxRecDepth 100000 in
theorem ok_293 : q_293.all (okE (jY 293)) = true := by decide +kernel
theorem om_294 : okM 294 = true := by decide +kernel
set_option maxRecDepth 100000 in
theorem ok_294 : q_294.all (okE (jY 294)) = true := by decide +kernel
theorem om_295 : okM 295 = true := by decide +kernel
set_option maxRecDepth 100000 in
theorem ok_295 : q_295.all (okE (jY 295)) = true := by decide +kernel
theorem om_296 : okM 296 = true := by decide +kernel
set_option maxRecDepth 100000 in
theorem ok_296 : q_296.all (okE (jY 296)) = true := by decide +kernel
theorem om_297 : okM 297 = true := by decide +kernel
set_option maxRecDepth 100000 in
theorem ok_297 : q_297.all (okE (jY 297)) = true := by decide +kernel
theorem om_298 : okM 298 = true := by decide +kernel
set_option maxRecDepth 100000 in
theorem ok_298 : q_298.all (okE (jY 298)) = true := by decide +kernel
theorem om_299 : okM 299 = true := by decide +kernel
set_option maxRecDepth 100000 in
theorem ok_299 : q_299.all (okE (jY 299)) = true := by decide +kernel
set_option maxRecDepth 100000 in
theorem okp_9 : ∀ k ∈ List.range' 270 30, jOk k := List.forall_mem_cons.mpr ⟨(⟨om_270, ok_270⟩ : jOk 270), List.forall_mem_cons.mpr ⟨(⟨om_271, ok_271⟩ : jOk 271), List.forall_mem_cons.mpr ⟨(⟨om_272, ok_272⟩ : jOk 272), List.forall_mem_cons.mpr ⟨(⟨om_273, ok_273⟩ : jOk 273), List.forall_mem_cons.mpr ⟨(⟨om_274, ok_274⟩ : jOk 274), List.forall_mem_cons.mpr ⟨(⟨om_275, ok_275⟩ : jOk 275), List.forall_mem_cons.mpr ⟨(⟨om_276, ok_276⟩ : jOk 276), List.forall_mem_cons.mpr ⟨(⟨om_277, ok_277⟩ : jOk 277), List.forall_mem_cons.mpr ⟨(⟨om_278, ok_278⟩ : jOk 278), List.forall_mem_cons.mpr ⟨(⟨om_279, ok_279⟩ : jOk 279), List.forall_mem_cons.mpr ⟨(⟨om_280, ok_280⟩ : jOk 280), List.forall_mem_cons.mpr ⟨(⟨om_281, ok_281⟩ : jOk 281), List.forall_mem_cons.mpr ⟨(⟨om_282, ok_282⟩ : jOk 282), List.forall_mem_cons.mpr ⟨(⟨om_283, ok_283⟩ : jOk 283), List.forall_mem_cons.mpr ⟨(⟨om_284, ok_284⟩ : jOk 284), List.forall_mem_cons.mpr ⟨(⟨om_285, ok_285⟩ : jOk 285), List.forall_mem_cons.mpr ⟨(⟨om_286, ok_286⟩ : jOk 286), List.forall_mem_cons.mpr ⟨(⟨om_287, ok_287⟩ : jOk 287), List.forall_mem_cons.mpr ⟨(⟨om_288, ok_288⟩ : jOk 288), List.forall_mem_cons.mpr ⟨(⟨om_289, ok_289⟩ : jOk 289), List.forall_mem_cons.mpr ⟨(⟨om_290, ok_290⟩ : jOk 290), List.forall_mem_cons.mpr ⟨(⟨om_291, ok_291⟩ : jOk 291), List.forall_mem_cons.mpr ⟨(⟨om_292, ok_292⟩ : jOk 292), List.forall_mem_cons.mpr ⟨(⟨om_293, ok_293⟩ : jOk 293), List.forall_mem_cons.mpr ⟨(⟨om_294, ok_294⟩ : jOk 294), List.forall_mem_cons.mpr ⟨(⟨om_295, ok_295⟩ : jOk 295), List.forall_mem_cons.mpr ⟨(⟨om_296, ok_296⟩ : jOk 296), List.forall_mem_cons.mpr ⟨(⟨om_297, ok_297⟩ : jOk 297), List.forall_mem_cons.mpr ⟨(⟨om_298, ok_298⟩ : jOk 298), List.forall_mem_cons.mpr ⟨(⟨om_299, ok_299⟩ : jOk 299), fun _ h => absurd h List.not_mem_nil⟩⟩⟩⟩⟩⟩⟩⟩⟩⟩⟩⟩⟩⟩⟩⟩⟩⟩⟩⟩⟩⟩⟩⟩⟩⟩⟩⟩⟩⟩
