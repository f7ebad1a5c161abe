/-! the words of the methods 330 to 359, checked by the kernel -/
theorem om_330 : okM 330 = true := by decide +kernel
set_option maxRecDepth 100000 in
theorem ok_330 : q_330.all (okE (jY 330)) = true := by decide +kernel
theorem om_331 : okM 331 = true := by decide +kernel
set_option maxRecDepth 100000 in
theorem ok_331 : q_331.all (okE (jY 331)) = true := by decide +kernel
theorem om_332 : okM 332 = true := by decide +kernel
set_option maxRecDepth 100000 in
theorem ok_332 : q_332.all (okE (jY 332)) = true := by decide +kernel
theorem om_333 : okM 333 = true := by decide +kernel
set_option maxRecDepth 100000 in
theorem ok_333 : q_333.all (okE (jY 333)) = true := by decide +kernel
theorem om_334 : okM 334 = true := by decide +kernel
set_option maxRecDepth 100000 in
theorem ok_334 : q_334.all (okE (jY 334)) = true := by decide +kernel
theorem om_335 : okM 335 = true := by decide +kernel
set_option maxRecDepth 100000 in
theorem ok_335 : q_335.all (okE (jY 335)) = true := by decide +kernel
theorem om_336 : okM 336 = true := by decide +kernel
set_option maxRecDepth 100000 in
theorem ok_336 : q_336.all (okE (jY 336)) = true := by decide +kernel
theorem om_337 : okM 337 = true := by decide +kernel
set_option maxRecDepth 100000 in
theorem ok_337 : q_337.all (okE (jY 337)) = true := by decide +kernel
theorem om_338 : okM 338 = true := by decide +kernel
set_option maxRecDepth 100000 in
theorem ok_338 : q_338.all (okE (jY 338)) = true := by decide +kernel
theorem om_339 : okM 339 = true := by decide +kernel
set_option maxRecDepth 100000 in
theorem ok_339 : q_339.all (okE (jY 339)) = true := by decide +kernel
theorem om_340 : okM 340 = true := by decide +kernel
set_option maxRecDepth 100000 in
theorem ok_340 : q_340.all (okE (jY 340)) = true := by decide +kernel
theorem om_341 : okM 341 = true := by decide +kernel
set_option maxRecDepth 100000 in
theorem ok_341 : q_341.all (okE (jY 341)) = true := by decide +kernel
theorem om_342 : okM 342 = true := by decide +kernel
set_option maxRecDepth 100000 in
theorem ok_342 : q_342.all (okE (jY 342)) = true := by decide +kernel
theorem om_343 : okM 343 = true := by decide +kernel
set_option maxRecDepth 100000 in
theorem ok_343 : q_343.all (okE (jY 343)) = true := by decide +kernel
theorem om_344 : okM 344 = true := by decide +kernel
set_option maxRecDepth 100000 in
theorem ok_344 : q_344.all (okE (jY 344)) = true := by decide +kernel
theorem om_345 : okM 345 = true := by decide +kernel
set_option maxRecDepth 100000 in
theorem ok_345 : q_345.all (okE (jY 345)) = true := by decide +kernel
theorem om_346 : okM 346 = true := by decide +kernel
set_option maxRecDepth 100000 in
theorem ok_346 : q_346.all (okE (jY 346)) = true := by decide +kernel
theorem om_347 : okM 347 = true := by decide +kernel
set_option maxRecDepth 100000 in
theorem ok_347 : q_347.all (okE (jY 347)) = true := by decide +kernel
theorem om_348 : okM 348 = true := by decide +kernel
set_option maxRecDepth 100000 in
theorem ok_348 : q_348.all (okE (jY 348)) = true := by decide +kernel
theorem om_349 : okM 349 = true := by decide +kernel
set_option maxRecDepth 100000 in
theorem ok_349 : q_349.all (okE (jY 349)) = true := by decide +kernel
theorem om_350 : okM 350 = true := by decide +kernel
set_option maxRecDepth 100000 in
theorem ok_350 : q_350.all (okE (jY 350)) = true := by decide +kernel
theorem om_351 : okM 351 = true := by decide +kernel
set_option maxRecDepth 100000 in
theorem ok_351 : q_351.all (okE (jY 351)) = true := by decide +kernel
theorem om_352 : okM 352 = true := by decide +kernel
set_option maxRecDepth 100000 in
theorem ok_352 : q_352.all (okE (jY 352)) = true := by decide +kernel
theorem om_353 : okM 353 = true := by decide +kernel
set_option maxRecDepth 100000 in
theorem ok_353 : q_353.all (okE (jY 353)) = true := by decide +kernel
theorem om_354 : okM 354 = true := by decide +kernel
set_option maxRecDepth 100000 in
theorem ok_354 : q_354.all (okE (jY 354)) = true := by decide +kernel
theorem om_355 : okM 355 = true := by decide +kernel
set_option maxRecDepth 100000 in
theorem ok_355 : q_355.all (okE (jY 355)) = true := by decide +kernel
theorem om_356 : okM 356 = true := by decide +kernel
set_option maxRecDepth 100000 in
theorem ok_356 : q_356.all (okE (jY 356)) = true := by decide +kernel
theorem om_357 : okM 357 = true := by decide +kernel
set_option maxRecDepth 100000 in
theorem ok_357 : q_357.all (okE (jY 357)) = true := by decide +kernel
theorem om_358 : okM 358 = true := by decide +kernel
set_option maxRecDepth 100000 in
theorem ok_358 : q_358.all (okE (jY 358)) = true := by decide +kernel
theorem om_359 : okM 359 = true := by decide +kernel
set_option maxRecDepth 100000 in
theorem ok_359 : q_359.all (okE (jY 359)) = true := by decide +kernel
set_option maxRecDepth 100000 in
theorem okp_11 : ∀ k ∈ List.range' 330 30, jOk k := List.forall_mem_cons.mpr ⟨(⟨om_330, ok_330⟩ : jOk 330), List.forall_mem_cons.mpr ⟨(⟨om_331, ok_331⟩ : jOk 331), List.forall_mem_cons.mpr ⟨(⟨om_332, ok_332⟩ : jOk 332), List.forall_mem_cons.mpr ⟨(⟨om_333, ok_333⟩ : jOk 333), List.forall_mem_cons.mpr ⟨(⟨om_334, ok_334⟩ : jOk 334), List.forall_mem_cons.mpr ⟨(⟨om_335, ok_335⟩ : jOk 335), List.forall_mem_cons.mpr ⟨(⟨om_336, ok_336⟩ : jOk 336), List.forall_mem_cons.mpr ⟨(⟨om_337, ok_337⟩ : jOk 337), List.forall_mem_cons.mpr ⟨(⟨om_338, ok_338⟩ : jOk 338), List.forall_mem_cons.mpr ⟨(⟨om_339, ok_339⟩ : jOk 339), List.forall_mem_cons.mpr ⟨(⟨om_340, ok_340⟩ : jOk 340), List.forall_mem_cons.mpr ⟨(⟨om_341, ok_341⟩ : jOk 341), List.forall_mem_cons.mpr ⟨(⟨om_342, ok_342⟩ : jOk 342), List.forall_mem_cons.mpr ⟨(⟨om_343, ok_343⟩ : jOk 343), List.forall_mem_cons.mpr ⟨(⟨om_344, ok_344⟩ : jOk 344), List.forall_mem_cons.mpr ⟨(⟨om_345, ok_345⟩ : jOk 345), List.forall_mem_cons.mpr ⟨(⟨om_346, ok_346⟩ : jOk 346), List.forall_mem_cons.mpr ⟨(⟨om_347, ok_347⟩ : jOk 347), List.forall_mem_cons.mpr ⟨(⟨om_348, ok_348⟩ : jOk 348), List.forall_mem_cons.mpr ⟨(⟨om_349, ok_349⟩ : jOk 349), List.forall_mem_cons.mpr ⟨(⟨om_350, ok_350⟩ : jOk 350), List.forall_mem_cons.mpr ⟨(⟨om_351, ok_351⟩ : jOk 351), List.forall_mem_cons.mpr ⟨(⟨om_352, ok_352⟩ : jOk 352), List.forall_mem_cons.mpr ⟨(⟨om_353, ok_353⟩ : jOk 353), List.forall_mem_cons.mpr ⟨(⟨om_354, ok_354⟩ : jOk 354), List.forall_mem_cons.mpr ⟨(⟨om_355, ok_355⟩ : jOk 355), List.forall_mem_cons.mpr ⟨(⟨om_356, ok_356⟩ : jOk 356), List.forall_mem_cons.mpr ⟨(⟨om_357, ok_357⟩ : jOk 357), List.forall_mem_cons.mpr ⟨(⟨om_358, ok_358⟩ : jOk 358), List.forall_mem_cons.mpr ⟨(⟨om_359, ok_359⟩ : jOk 359), fun _ h => absurd h List.not_mem_nil⟩⟩⟩⟩⟩⟩⟩⟩⟩⟩⟩⟩⟩⟩⟩⟩⟩⟩⟩⟩⟩⟩⟩⟩⟩⟩⟩⟩⟩⟩
