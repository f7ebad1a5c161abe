/-! the words of the methods 338 to 341, checked by the kernel -/
theorem om_338 : okM 338 = true := by decide +kernel
set_option maxRecDepth 100000 in
theorem ok_338 : q_338.all (okE (jY 338)) = true := by decide +kernel
theorem om_339 : okM 339 = true := by decide +kernel
set_option maxRecDepth 100000 in
theorem ok_339 : q_339.all (okE (jY 339)) = true := by decide +kernel
theorem om_340 : okM 340 = true := by decide +kernel
set_option maxRecDepth 100000 in
theorem ok_340 : q_340.all (okE (jY 340)) = true := by decide +kernel
theorem om_341 : okM 341 = true := by decide +kernel
set_option maxRecDepth 100000 in
theorem ok_341 : q_341.all (okE (jY 341)) = true := by decide +kernel
set_option maxRecDepth 100000 in
theorem okp_26 : ∀ k ∈ List.range' 338 4, jOk k := List.forall_mem_cons.mpr ⟨(⟨om_338, ok_338⟩ : jOk 338), List.forall_mem_cons.mpr ⟨(⟨om_339, ok_339⟩ : jOk 339), List.forall_mem_cons.mpr ⟨(⟨om_340, ok_340⟩ : jOk 340), List.forall_mem_cons.mpr ⟨(⟨om_341, ok_341⟩ : jOk 341), fun _ h => absurd h List.not_mem_nil⟩⟩⟩⟩
