/-! the words of the methods 266 to 272, checked by the kernel -/
theorem om_266 : okM 266 = true := by decide +kernel
set_option maxRecDepth 100000 in
theorem ok_266 : q_266.all (okE (jY 266)) = true := by decide +kernel
theorem om_267 : okM 267 = true := by decide +kernel
set_option maxRecDepth 100000 in
theorem ok_267 : q_267.all (okE (jY 267)) = true := by decide +kernel
theorem om_268 : okM 268 = true := by decide +kernel
set_option maxRecDepth 100000 in
theorem ok_268 : q_268.all (okE (jY 268)) = true := by decide +kernel
theorem om_269 : okM 269 = true := by decide +kernel
set_option maxRecDepth 100000 in
theorem ok_269 : q_269.all (okE (jY 269)) = true := by decide +kernel
theorem om_270 : okM 270 = true := by decide +kernel
set_option maxRecDepth 100000 in
theorem ok_270 : q_270.all (okE (jY 270)) = true := by decide +kernel
theorem om_271 : okM 271 = true := by decide +kernel
set_option maxRecDepth 100000 in
theorem ok_271 : q_271.all (okE (jY 271)) = true := by decide +kernel
theorem om_272 : okM 272 = true := by decide +kernel
set_option maxRecDepth 100000 in
theorem ok_272 : q_272.all (okE (jY 272)) = true := by decide +kernel
set_option maxRecDepth 100000 in
theorem okp_15 : ∀ k ∈ List.range' 266 7, jOk k := List.forall_mem_cons.mpr ⟨(⟨om_266, ok_266⟩ : jOk 266), List.forall_mem_cons.mpr ⟨(⟨om_267, ok_267⟩ : jOk 267), List.forall_mem_cons.mpr ⟨(⟨om_268, ok_268⟩ : jOk 268), List.forall_mem_cons.mpr ⟨(⟨om_269, ok_269⟩ : jOk 269), List.forall_mem_cons.mpr ⟨(⟨om_270, ok_270⟩ : jOk 270), List.forall_mem_cons.mpr ⟨(⟨om_271, ok_271⟩ : jOk 271), List.forall_mem_cons.mpr ⟨(⟨om_272, ok_272⟩ : jOk 272), fun _ h => absurd h List.not_mem_nil⟩⟩⟩⟩⟩⟩⟩
