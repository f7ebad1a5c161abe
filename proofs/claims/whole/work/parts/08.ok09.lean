/-! the words of the methods 215 to 224, checked by the kernel -/
theorem om_215 : okM 215 = true := by decide +kernel
set_option maxRecDepth 100000 in
theorem ok_215 : q_215.all (okE (jY 215)) = true := by decide +kernel
theorem om_216 : okM 216 = true := by decide +kernel
set_option maxRecDepth 100000 in
theorem ok_216 : q_216.all (okE (jY 216)) = true := by decide +kernel
theorem om_217 : okM 217 = true := by decide +kernel
set_option maxRecDepth 100000 in
theorem ok_217 : q_217.all (okE (jY 217)) = true := by decide +kernel
theorem om_218 : okM 218 = true := by decide +kernel
set_option maxRecDepth 100000 in
theorem ok_218 : q_218.all (okE (jY 218)) = true := by decide +kernel
theorem om_219 : okM 219 = true := by decide +kernel
set_option maxRecDepth 100000 in
theorem ok_219 : q_219.all (okE (jY 219)) = true := by decide +kernel
theorem om_220 : okM 220 = true := by decide +kernel
set_option maxRecDepth 100000 in
theorem ok_220 : q_220.all (okE (jY 220)) = true := by decide +kernel
theorem om_221 : okM 221 = true := by decide +kernel
set_option maxRecDepth 100000 in
theorem ok_221 : q_221.all (okE (jY 221)) = true := by decide +kernel
theorem om_222 : okM 222 = true := by decide +kernel
set_option maxRecDepth 100000 in
theorem ok_222 : q_222.all (okE (jY 222)) = true := by decide +kernel
theorem om_223 : okM 223 = true := by decide +kernel
set_option maxRecDepth 100000 in
theorem ok_223 : q_223.all (okE (jY 223)) = true := by decide +kernel
theorem om_224 : okM 224 = true := by decide +kernel
set_option maxRecDepth 100000 in
theorem ok_224 : q_224.all (okE (jY 224)) = true := by decide +kernel
set_option maxRecDepth 100000 in
theorem okp_9 : ∀ k ∈ List.range' 215 10, jOk k := List.forall_mem_cons.mpr ⟨(⟨om_215, ok_215⟩ : jOk 215), List.forall_mem_cons.mpr ⟨(⟨om_216, ok_216⟩ : jOk 216), List.forall_mem_cons.mpr ⟨(⟨om_217, ok_217⟩ : jOk 217), List.forall_mem_cons.mpr ⟨(⟨om_218, ok_218⟩ : jOk 218), List.forall_mem_cons.mpr ⟨(⟨om_219, ok_219⟩ : jOk 219), List.forall_mem_cons.mpr ⟨(⟨om_220, ok_220⟩ : jOk 220), List.forall_mem_cons.mpr ⟨(⟨om_221, ok_221⟩ : jOk 221), List.forall_mem_cons.mpr ⟨(⟨om_222, ok_222⟩ : jOk 222), List.forall_mem_cons.mpr ⟨(⟨om_223, ok_223⟩ : jOk 223), List.forall_mem_cons.mpr ⟨(⟨om_224, ok_224⟩ : jOk 224), fun _ h => absurd h List.not_mem_nil⟩⟩⟩⟩⟩⟩⟩⟩⟩⟩
