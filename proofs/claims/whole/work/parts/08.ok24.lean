/-! the words of the methods 324 to 331, checked by the kernel -/
theorem om_324 : okM 324 = true := by decide +kernel
set_option maxRecDepth 100000 in
theorem ok_324 : q_324.all (okE (jY 324)) = true := by decide +kernel
theorem om_325 : okM 325 = true := by decide +kernel
set_option maxRecDepth 100000 in
theorem ok_325 : q_325.all (okE (jY 325)) = true := by decide +kernel
theorem om_326 : okM 326 = true := by decide +kernel
set_option maxRecDepth 100000 in
theorem ok_326 : q_326.all (okE (jY 326)) = true := by decide +kernel
theorem om_327 : okM 327 = true := by decide +kernel
set_option maxRecDepth 100000 in
theorem ok_327 : q_327.all (okE (jY 327)) = true := by decide +kernel
theorem om_328 : okM 328 = true := by decide +kernel
set_option maxRecDepth 100000 in
theorem ok_328 : q_328.all (okE (jY 328)) = true := by decide +kernel
theorem om_329 : okM 329 = true := by decide +kernel
set_option maxRecDepth 100000 in
theorem ok_329 : q_329.all (okE (jY 329)) = true := by decide +kernel
theorem om_330 : okM 330 = true := by decide +kernel
set_option maxRecDepth 100000 in
theorem ok_330 : q_330.all (okE (jY 330)) = true := by decide +kernel
theorem om_331 : okM 331 = true := by decide +kernel
set_option maxRecDepth 100000 in
theorem ok_331 : q_331.all (okE (jY 331)) = true := by decide +kernel
set_option maxRecDepth 100000 in
theorem okp_24 : ∀ k ∈ List.range' 324 8, jOk k := List.forall_mem_cons.mpr ⟨(⟨om_324, ok_324⟩ : jOk 324), List.forall_mem_cons.mpr ⟨(⟨om_325, ok_325⟩ : jOk 325), List.forall_mem_cons.mpr ⟨(⟨om_326, ok_326⟩ : jOk 326), List.forall_mem_cons.mpr ⟨(⟨om_327, ok_327⟩ : jOk 327), List.forall_mem_cons.mpr ⟨(⟨om_328, ok_328⟩ : jOk 328), List.forall_mem_cons.mpr ⟨(⟨om_329, ok_329⟩ : jOk 329), List.forall_mem_cons.mpr ⟨(⟨om_330, ok_330⟩ : jOk 330), List.forall_mem_cons.mpr ⟨(⟨om_331, ok_331⟩ : jOk 331), fun _ h => absurd h List.not_mem_nil⟩⟩⟩⟩⟩⟩⟩⟩
