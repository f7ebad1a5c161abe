/-! the words of the methods 210 to 212, checked by the kernel -/
theorem om_210 : okM 210 = true := by decide +kernel
set_option maxRecDepth 100000 in
theorem ok_210 : q_210.all (okE (jY 210)) = true := by decide +kernel
theorem om_211 : okM 211 = true := by decide +kernel
set_option maxRecDepth 100000 in
theorem ok_211 : q_211.all (okE (jY 211)) = true := by decide +kernel
theorem om_212 : okM 212 = true := by decide +kernel
set_option maxRecDepth 100000 in
theorem ok_212 : q_212.all (okE (jY 212)) = true := by decide +kernel
set_option maxRecDepth 100000 in
theorem okp_7 : ∀ k ∈ List.range' 210 3, jOk k := List.forall_mem_cons.mpr ⟨(⟨om_210, ok_210⟩ : jOk 210), List.forall_mem_cons.mpr ⟨(⟨om_211, ok_211⟩ : jOk 211), List.forall_mem_cons.mpr ⟨(⟨om_212, ok_212⟩ : jOk 212), fun _ h => absurd h List.not_mem_nil⟩⟩⟩
