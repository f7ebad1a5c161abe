/-! the words of the methods 273 to 282, checked by the kernel -/
theorem om_273 : okM 273 = true := by decide +kernel
set_option maxRecDepth 100000 in
theorem ok_273 : q_273.all (okE (jY 273)) = true := by decide +kernel
theorem om_274 : okM 274 = true := by decide +kernel
set_option maxRecDepth 100000 in
theorem ok_274 : q_274.all (okE (jY 274)) = true := by decide +kernel
theorem om_275 : okM 275 = true := by decide +kernel
set_option maxRecDepth 100000 in
theorem ok_275 : q_275.all (okE (jY 275)) = true := by decide +kernel
theorem om_276 : okM 276 = true := by decide +kernel
set_option maxRecDepth 100000 in
theorem ok_276 : q_276.all (okE (jY 276)) = true := by decide +kernel
theorem om_277 : okM 277 = true := by decide +kernel
set_option maxRecDepth 100000 in
theorem ok_277 : q_277.all (okE (jY 277)) = true := by decide +kernel
theorem om_278 : okM 278 = true := by decide +kernel
set_option maxRecDepth 100000 in
theorem ok_278 : q_278.all (okE (jY 278)) = true := by decide +kernel
theorem om_279 : okM 279 = true := by decide +kernel
set_option maxRecDepth 100000 in
theorem ok_279 : q_279.all (okE (jY 279)) = true := by decide +kernel
theorem om_280 : okM 280 = true := by decide +kernel
set_option maxRecDepth 100000 in
theorem ok_280 : q_280.all (okE (jY 280)) = true := by decide +kernel
theorem om_281 : okM 281 = true := by decide +kernel
set_option maxRecDepth 100000 in
theorem ok_281 : q_281.all (okE (jY 281)) = true := by decide +kernel
theorem om_282 : okM 282 = true := by decide +kernel
set_option maxRecDepth 100000 in
theorem ok_282 : q_282.all (okE (jY 282)) = true := by decide +kernel
set_option maxRecDepth 100000 in
theorem okp_16 : ∀ k ∈ List.range' 273 10, jOk k := List.forall_mem_cons.mpr ⟨(⟨om_273, ok_273⟩ : jOk 273), List.forall_mem_cons.mpr ⟨(⟨om_274, ok_274⟩ : jOk 274), List.forall_mem_cons.mpr ⟨(⟨om_275, ok_275⟩ : jOk 275), List.forall_mem_cons.mpr ⟨(⟨om_276, ok_276⟩ : jOk 276), List.forall_mem_cons.mpr ⟨(⟨om_277, ok_277⟩ : jOk 277), List.forall_mem_cons.mpr ⟨(⟨om_278, ok_278⟩ : jOk 278), List.forall_mem_cons.mpr ⟨(⟨om_279, ok_279⟩ : jOk 279), List.forall_mem_cons.mpr ⟨(⟨om_280, ok_280⟩ : jOk 280), List.forall_mem_cons.mpr ⟨(⟨om_281, ok_281⟩ : jOk 281), List.forall_mem_cons.mpr ⟨(⟨om_282, ok_282⟩ : jOk 282), fun _ h => absurd h List.not_mem_nil⟩⟩⟩⟩⟩⟩⟩⟩⟩⟩
