/-! the words of the methods 301 to 305, checked by the kernel -/
theorem om_301 : okM 301 = true := by decide +kernel
set_option maxRecDepth 100000 in
theorem ok_301 : q_301.all (okE (jY 301)) = true := by decide +kernel
theorem om_302 : okM 302 = true := by decide +kernel
set_option maxRecDepth 100000 in
theorem ok_302 : q_302.all (okE (jY 302)) = true := by decide +kernel
theorem om_303 : okM 303 = true := by decide +kernel
set_option maxRecDepth 100000 in
theorem ok_303 : q_303.all (okE (jY 303)) = true := by decide +kernel
theorem om_304 : okM 304 = true := by decide +kernel
set_option maxRecDepth 100000 in
theorem ok_304 : q_304.all (okE (jY 304)) = true := by decide +kernel
theorem om_305 : okM 305 = true := by decide +kernel
set_option maxRecDepth 100000 in
theorem ok_305 : q_305.all (okE (jY 305)) = true := by decide +kernel
set_option maxRecDepth 100000 in
theorem okp_20 : ∀ k ∈ List.range' 301 5, jOk k := List.forall_mem_cons.mpr ⟨(⟨om_301, ok_301⟩ : jOk 301), List.forall_mem_cons.mpr ⟨(⟨om_302, ok_302⟩ : jOk 302), List.forall_mem_cons.mpr ⟨(⟨om_303, ok_303⟩ : jOk 303), List.forall_mem_cons.mpr ⟨(⟨om_304, ok_304⟩ : jOk 304), List.forall_mem_cons.mpr ⟨(⟨om_305, ok_305⟩ : jOk 305), fun _ h => absurd h List.not_mem_nil⟩⟩⟩⟩⟩
