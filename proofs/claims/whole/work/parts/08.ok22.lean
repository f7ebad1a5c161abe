/-! the words of the methods 312 to 320, checked by the kernel -/
theorem om_312 : okM 312 = true := by decide +kernel
set_option maxRecDepth 100000 in
theorem ok_312 : q_312.all (okE (jY 312)) = true := by decide +kernel
theorem om_313 : okM 313 = true := by decide +kernel
set_option maxRecDepth 100000 in
theorem ok_313 : q_313.all (okE (jY 313)) = true := by decide +kernel
theorem om_314 : okM 314 = true := by decide +kernel
set_option maxRecDepth 100000 in
theorem ok_314 : q_314.all (okE (jY 314)) = true := by decide +kernel
theorem om_315 : okM 315 = true := by decide +kernel
set_option maxRecDepth 100000 in
theorem ok_315 : q_315.all (okE (jY 315)) = true := by decide +kernel
theorem om_316 : okM 316 = true := by decide +kernel
set_option maxRecDepth 100000 in
theorem ok_316 : q_316.all (okE (jY 316)) = true := by decide +kernel
theorem om_317 : okM 317 = true := by decide +kernel
set_option maxRecDepth 100000 in
theorem ok_317 : q_317.all (okE (jY 317)) = true := by decide +kernel
theorem om_318 : okM 318 = true := by decide +kernel
set_option maxRecDepth 100000 in
theorem ok_318 : q_318.all (okE (jY 318)) = true := by decide +kernel
theorem om_319 : okM 319 = true := by decide +kernel
set_option maxRecDepth 100000 in
theorem ok_319 : q_319.all (okE (jY 319)) = true := by decide +kernel
theorem om_320 : okM 320 = true := by decide +kernel
set_option maxRecDepth 100000 in
theorem ok_320 : q_320.all (okE (jY 320)) = true := by decide +kernel
set_option maxRecDepth 100000 in
theorem okp_22 : ∀ k ∈ List.range' 312 9, jOk k := List.forall_mem_cons.mpr ⟨(⟨om_312, ok_312⟩ : jOk 312), List.forall_mem_cons.mpr ⟨(⟨om_313, ok_313⟩ : jOk 313), List.forall_mem_cons.mpr ⟨(⟨om_314, ok_314⟩ : jOk 314), List.forall_mem_cons.mpr ⟨(⟨om_315, ok_315⟩ : jOk 315), List.forall_mem_cons.mpr ⟨(⟨om_316, ok_316⟩ : jOk 316), List.forall_mem_cons.mpr ⟨(⟨om_317, ok_317⟩ : jOk 317), List.forall_mem_cons.mpr ⟨(⟨om_318, ok_318⟩ : jOk 318), List.forall_mem_cons.mpr ⟨(⟨om_319, ok_319⟩ : jOk 319), List.forall_mem_cons.mpr ⟨(⟨om_320, ok_320⟩ : jOk 320), fun _ h => absurd h List.not_mem_nil⟩⟩⟩⟩⟩⟩⟩⟩⟩
