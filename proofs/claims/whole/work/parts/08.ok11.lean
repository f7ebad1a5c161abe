/-! the words of the methods 234 to 242, checked by the kernel -/
theorem om_234 : okM 234 = true := by decide +kernel
set_option maxRecDepth 100000 in
theorem ok_234 : q_234.all (okE (jY 234)) = true := by decide +kernel
theorem om_235 : okM 235 = true := by decide +kernel
set_option maxRecDepth 100000 in
theorem ok_235 : q_235.all (okE (jY 235)) = true := by decide +kernel
theorem om_236 : okM 236 = true := by decide +kernel
set_option maxRecDepth 100000 in
theorem ok_236 : q_236.all (okE (jY 236)) = true := by decide +kernel
theorem om_237 : okM 237 = true := by decide +kernel
set_option maxRecDepth 100000 in
theorem ok_237 : q_237.all (okE (jY 237)) = true := by decide +kernel
theorem om_238 : okM 238 = true := by decide +kernel
set_option maxRecDepth 100000 in
theorem ok_238 : q_238.all (okE (jY 238)) = true := by decide +kernel
theorem om_239 : okM 239 = true := by decide +kernel
set_option maxRecDepth 100000 in
theorem ok_239 : q_239.all (okE (jY 239)) = true := by decide +kernel
theorem om_240 : okM 240 = true := by decide +kernel
set_option maxRecDepth 100000 in
theorem ok_240 : q_240.all (okE (jY 240)) = true := by decide +kernel
theorem om_241 : okM 241 = true := by decide +kernel
set_option maxRecDepth 100000 in
theorem ok_241 : q_241.all (okE (jY 241)) = true := by decide +kernel
theorem om_242 : okM 242 = true := by decide +kernel
set_option maxRecDepth 100000 in
theorem ok_242 : q_242.all (okE (jY 242)) = true := by decide +kernel
set_option maxRecDepth 100000 in
theorem okp_11 : ∀ k ∈ List.range' 234 9, jOk k := List.forall_mem_cons.mpr ⟨(⟨om_234, ok_234⟩ : jOk 234), List.forall_mem_cons.mpr ⟨(⟨om_235, ok_235⟩ : jOk 235), List.forall_mem_cons.mpr ⟨(⟨om_236, ok_236⟩ : jOk 236), List.forall_mem_cons.mpr ⟨(⟨om_237, ok_237⟩ : jOk 237), List.forall_mem_cons.mpr ⟨(⟨om_238, ok_238⟩ : jOk 238), List.forall_mem_cons.mpr ⟨(⟨om_239, ok_239⟩ : jOk 239), List.forall_mem_cons.mpr ⟨(⟨om_240, ok_240⟩ : jOk 240), List.forall_mem_cons.mpr ⟨(⟨om_241, ok_241⟩ : jOk 241), List.forall_mem_cons.mpr ⟨(⟨om_242, ok_242⟩ : jOk 242), fun _ h => absurd h List.not_mem_nil⟩⟩⟩⟩⟩⟩⟩⟩⟩
