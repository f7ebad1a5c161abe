/-! the words of the methods 300 to 329, checked by the kernel -/
theorem om_300 : okM 300 = true := by decide +kernel
set_option maxRecDepth 100000 in
theorem ok_300 : q_300.all (okE (jY 300)) = true := by decide +kernel
theorem om_301 : okM 301 = true := by decide +kernel
set_option maxRecDepth 100000 in
theorem ok_301 : q_301.all (okE (jY 301)) = true := by decide +kernel
theorem om_302 : okM 302 = true := by decide +kernel
set_option maxRecDepth 100000 in
theorem ok_302 : q_302.all (okE (jY 302)) = true := by decide +kernel
theorem om_303 : okM 303 = true := by decide +kernel
set_option maxRecDepth 100000 in
theorem ok_303 : q_303.all (okE (jY 303)) = true := by decide +kernel
theorem om_304 : okM 304 = true := by decide +kernel
set_option maxRecDepth 100000 in
theorem ok_304 : q_304.all (okE (jY 304)) = true := by decide +kernel
theorem om_305 : okM 305 = true := by decide +kernel
set_option maxRecDepth 100000 in
theorem ok_305 : q_305.all (okE (jY 305)) = true := by decide +kernel
theorem om_306 : okM 306 = true := by decide +kernel
set_option maxRecDepth 100000 in
theorem ok_306 : q_306.all (okE (jY 306)) = true := by decide +kernel
theorem om_307 : okM 307 = true := by decide +kernel
set_option maxRecDepth 100000 in
theorem ok_307 : q_307.all (okE (jY 307)) = true := by decide +kernel
theorem om_308 : okM 308 = true := by decide +kernel
set_option maxRecDepth 100000 in
theorem ok_308 : q_308.all (okE (jY 308)) = true := by decide +kernel
theorem om_309 : okM 309 = true := by decide +kernel
set_option maxRecDepth 100000 in
theorem ok_309 : q_309.all (okE (jY 309)) = true := by decide +kernel
theorem om_310 : okM 310 = true := by decide +kernel
set_option maxRecDepth 100000 in
theorem ok_310 : q_310.all (okE (jY 310)) = true := by decide +kernel
theorem om_311 : okM 311 = true := by decide +kernel
set_option maxRecDepth 100000 in
theorem ok_311 : q_311.all (okE (jY 311)) = true := by decide +kernel
theorem om_312 : okM 312 = true := by decide +kernel
set_option maxRecDepth 100000 in
theorem ok_312 : q_312.all (okE (jY 312)) = true := by decide +kernel
theorem om_313 : okM 313 = true := by decide +kernel
set_option maxRecDepth 100000 in
theorem ok_313 : q_313.all (okE (jY 313)) = true := by decide +kernel
theorem om_314 : okM 314 = true := by decide +kernel
set_option maxRecDepth 100000 in
theorem ok_314 : q_314.all (okE (jY 314)) = true := by decide +kernel
theorem om_315 : okM 315 = true := by decide +kernel
set_option maxRecDepth 100000 in
theorem ok_315 : q_315.all (okE (jY 315)) = true := by decide +kernel
theorem om_316 : okM 316 = true := by decide +kernel
set_option maxRecDepth 100000 in
theorem ok_316 : q_316.all (okE (jY 316)) = true := by decide +kernel
theorem om_317 : okM 317 = true := by decide +kernel
set_option maxRecDepth 100000 in
theorem ok_317 : q_317.all (okE (jY 317)) = true := by decide +kernel
theorem om_318 : okM 318 = true := by decide +kernel
set_option maxRecDepth 100000 in
theorem ok_318 : q_318.all (okE (jY 318)) = true := by decide +kernel
theorem om_319 : okM 319 = true := by decide +kernel
set_option maxRecDepth 100000 in
theorem ok_319 : q_319.all (okE (jY 319)) = true := by decide +kernel
theorem om_320 : okM 320 = true := by decide +kernel
set_option maxRecDepth 100000 in
theorem ok_320 : q_320.all (okE (jY 320)) = true := by decide +kernel
theorem om_321 : okM 321 = true := by decide +kernel
set_option maxRecDepth 100000 in
theorem ok_321 : q_321.all (okE (jY 321)) = true := by decide +kernel
theorem om_322 : okM 322 = true := by decide +kernel
set_option maxRecDepth 100000 in
theorem ok_322 : q_322.all (okE (jY 322)) = true := by decide +kernel
theorem om_323 : okM 323 = true := by decide +kernel
set_option maxRecDepth 100000 in
theorem ok_323 : q_323.all (okE (jY 323)) = true := by decide +kernel
theorem om_324 : okM 324 = true := by decide +kernel
set_option maxRecDepth 100000 in
theorem ok_324 : q_324.all (okE (jY 324)) = true := by decide +kernel
theorem om_325 : okM 325 = true := by decide +kernel
set_option maxRecDepth 100000 in
theorem ok_325 : q_325.all (okE (jY 325)) = true := by decide +kernel
theorem om_326 : okM 326 = true := by decide +kernel
set_option maxRecDepth 100000 in
theorem ok_326 : q_326.all (okE (jY 326)) = true := by decide +kernel
theorem om_327 : okM 327 = true := by decide +kernel
set_option maxRecDepth 100000 in
theorem ok_327 : q_327.all (okE (jY 327)) = true := by decide +kernel
theorem om_328 : okM 328 = true := by decide +kernel
set_option maxRecDepth 100000 in
theorem ok_328 : q_328.all (okE (jY 328)) = true := by decide +kernel
theorem om_329 : okM 329 = true := by decide +kernel
set_option maxRecDepth 100000 in
theorem ok_329 : q_329.all (okE (jY 329)) = true := by decide +kernel
set_option maxRecDepth 100000 in
theorem okp_10 : ∀ k ∈ List.range' 300 30, jOk k := List.forall_mem_cons.mpr ⟨(⟨om_300, ok_300⟩ : jOk 300), List.forall_mem_cons.mpr ⟨(⟨om_301, ok_301⟩ : jOk 301), List.forall_mem_cons.mpr ⟨(⟨om_302, ok_302⟩ : jOk 302), List.forall_mem_cons.mpr ⟨(⟨om_303, ok_303⟩ : jOk 303), List.forall_mem_cons.mpr ⟨(⟨om_304, ok_304⟩ : jOk 304), List.forall_mem_cons.mpr ⟨(⟨om_305, ok_305⟩ : jOk 305), List.forall_mem_cons.mpr ⟨(⟨om_306, ok_306⟩ : jOk 306), List.forall_mem_cons.mpr ⟨(⟨om_307, ok_307⟩ : jOk 307), List.forall_mem_cons.mpr ⟨(⟨om_308, ok_308⟩ : jOk 308), List.forall_mem_cons.mpr ⟨(⟨om_309, ok_309⟩ : jOk 309), List.forall_mem_cons.mpr ⟨(⟨om_310, ok_310⟩ : jOk 310), List.forall_mem_cons.mpr ⟨(⟨om_311, ok_311⟩ : jOk 311), List.forall_mem_cons.mpr ⟨(⟨om_312, ok_312⟩ : jOk 312), List.forall_mem_cons.mpr ⟨(⟨om_313, ok_313⟩ : jOk 313), List.forall_mem_cons.mpr ⟨(⟨om_314, ok_314⟩ : jOk 314), List.forall_mem_cons.mpr ⟨(⟨om_315, ok_315⟩ : jOk 315), List.forall_mem_cons.mpr ⟨(⟨om_316, ok_316⟩ : jOk 316), List.forall_mem_cons.mpr ⟨(⟨om_317, ok_317⟩ : jOk 317), List.forall_mem_cons.mpr ⟨(⟨om_318, ok_318⟩ : jOk 318), List.forall_mem_cons.mpr ⟨(⟨om_319, ok_319⟩ : jOk 319), List.forall_mem_cons.mpr ⟨(⟨om_320, ok_320⟩ : jOk 320), List.forall_mem_cons.mpr ⟨(⟨om_321, ok_321⟩ : jOk 321), List.forall_mem_cons.mpr ⟨(⟨om_322, ok_322⟩ : jOk 322), List.forall_mem_cons.mpr ⟨(⟨om_323, ok_323⟩ : jOk 323), List.forall_mem_cons.mpr ⟨(⟨om_324, ok_324⟩ : jOk 324), List.forall_mem_cons.mpr ⟨(⟨om_325, ok_325⟩ : jOk 325), List.forall_mem_cons.mpr ⟨(⟨om_326, ok_326⟩ : jOk 326), List.forall_mem_cons.mpr ⟨(⟨om_327, ok_327⟩ : jOk 327), List.forall_mem_cons.mpr ⟨(⟨om_328, ok_328⟩ : jOk 328), List.forall_mem_cons.mpr ⟨(⟨om_329, ok_329⟩ : jOk 329), fun _ h => absurd h List.not_mem_nil⟩⟩⟩⟩⟩⟩⟩⟩⟩⟩⟩⟩⟩⟩⟩⟩⟩⟩⟩⟩⟩⟩⟩⟩⟩⟩⟩⟩⟩⟩
