/-! the words of the methods 213 to 214, checked by the kernel -/
theorem om_213 : okM 213 = true := by decide +kernel
set_option maxRecDepth 100000 in
theorem ok_213 : q_213.all (okE (jY 213)) = true := by decide +kernel
theorem om_214 : okM 214 = true := by decide +kernel
set_option maxRecDepth 100000 in
theorem ok_214 : q_214.all (okE (jY 214)) = true := by decide +kernel
set_option maxRecDepth 100000 in
theorem okp_8 : ∀ k ∈ List.range' 213 2, jOk k := List.forall_mem_cons.mpr ⟨(⟨om_213, ok_213⟩ : jOk 213), List.forall_mem_cons.mpr ⟨(⟨om_214, ok_214⟩ : jOk 214), fun _ h => absurd h List.not_mem_nil⟩⟩
