/-! the words of the methods 306 to 311, checked by the kernel -/
theorem om_306 : okM 306 = true := by decide +kernel
set_option maxRecDepth 100000 in
theorem ok_306 : q_306.all (okE (jY 306)) = true := by decide +kernel
theorem om_307 : okM 307 = true := by decide +kernel
set_option maxRecDepth 100000 in
theorem ok_307 : q_307.all (okE (jY 307)) = true := by decide +kernel
theorem om_308 : okM 308 = true := by decide +kernel
set_option maxRecDepth 100000 in
theorem ok_308 : q_308.all (okE (jY 308)) = true := by decide +kernel
theorem om_309 : okM 309 = true := by decide +kernel
set_option maxRecDepth 100000 in
theorem ok_309 : q_309.all (okE (jY 309)) = true := by decide +kernel
theorem om_310 : okM 310 = true := by decide +kernel
set_option maxRecDepth 100000 in
theorem ok_310 : q_310.all (okE (jY 310)) = true := by decide +kernel
theorem om_311 : okM 311 = true := by decide +kernel
set_option maxRecDepth 100000 in
theorem ok_311 : q_311.all (okE (jY 311)) = true := by decide +kernel
set_option maxRecDepth 100000 in
theorem okp_21 : ∀ k ∈ List.range' 306 6, jOk k := List.forall_mem_cons.mpr ⟨(⟨om_306, ok_306⟩ : jOk 306), List.forall_mem_cons.mpr ⟨(⟨om_307, ok_307⟩ : jOk 307), List.forall_mem_cons.mpr ⟨(⟨om_308, ok_308⟩ : jOk 308), List.forall_mem_cons.mpr ⟨(⟨om_309, ok_309⟩ : jOk 309), List.forall_mem_cons.mpr ⟨(⟨om_310, ok_310⟩ : jOk 310), List.forall_mem_cons.mpr ⟨(⟨om_311, ok_311⟩ : jOk 311), fun _ h => absurd h List.not_mem_nil⟩⟩⟩⟩⟩⟩
