/-! the words of the methods 210 to 239, checked by the kernel -/
theorem om_210 : okM 210 = true := by decide +kernel
set_option maxRecDepth 100000 in
theorem ok_210 : q_210.all (okE (jY 210)) = true := by decide +kernel
theorem om_211 : okM 211 = true := by decide +kernel
set_option maxRecDepth 100000 in
theorem ok_211 : q_211.all (okE (jY 211)) = true := by decide +kernel
theorem om_212 : okM 212 = true := by decide +kernel
set_option maxRecDepth 100000 in
theorem ok_212 : q_212.all (okE (jY 212)) = true := by decide +kernel
theorem om_213 : okM 213 = true := by decide +kernel
set_option maxRecDepth 100000 in
theorem ok_213 : q_213.all (okE (jY 213)) = true := by decide +kernel
theorem om_214 : okM 214 = true := by decide +kernel
set_option maxRecDepth 100000 in
theorem ok_214 : q_214.all (okE (jY 214)) = true := by decide +kernel
theorem om_215 : okM 215 = true := by decide +kernel
set_option maxRecDepth 100000 in
theorem ok_215 : q_215.all (okE (jY 215)) = true := by decide +kernel
theorem om_216 : okM 216 = true := by decide +kernel
set_option maxRecDepth 100000 in
theorem ok_216 : q_216.all (okE (jY 216)) = true := by decide +kernel
theorem om_217 : okM 217 = true := by decide +kernel
set_option maxRecDepth 100000 in
theorem ok_217 : q_217.all (okE (jY 217)) = true := by decide +kernel
theorem om_218 : okM 218 = true := by decide +kernel
set_option maxRecDepth 100000 in
theorem ok_218 : q_218.all (okE (jY 218)) = true := by decide +kernel
theorem om_219 : okM 219 = true := by decide +kernel
set_option maxRecDepth 100000 in
theorem ok_219 : q_219.all (okE (jY 219)) = true := by decide +kernel
theorem om_220 : okM 220 = true := by decide +kernel
set_option maxRecDepth 100000 in
theorem ok_220 : q_220.all (okE (jY 220)) = true := by decide +kernel
theorem om_221 : okM 221 = true := by decide +kernel
set_option maxRecDepth 100000 in
theorem ok_221 : q_221.all (okE (jY 221)) = true := by decide +kernel
theorem om_222 : okM 222 = true := by decide +kernel
set_option maxRecDepth 100000 in
theorem ok_222 : q_222.all (okE (jY 222)) = true := by decide +kernel
theorem om_223 : okM 223 = true := by decide +kernel
set_option maxRecDepth 100000 in
theorem ok_223 : q_223.all (okE (jY 223)) = true := by decide +kernel
theorem om_224 : okM 224 = true := by decide +kernel
set_option maxRecDepth 100000 in
theorem ok_224 : q_224.all (okE (jY 224)) = true := by decide +kernel
theorem om_225 : okM 225 = true := by decide +kernel
set_option maxRecDepth 100000 in
theorem ok_225 : q_225.all (okE (jY 225)) = true := by decide +kernel
theorem om_226 : okM 226 = true := by decide +kernel
set_option maxRecDepth 100000 in
theorem ok_226 : q_226.all (okE (jY 226)) = true := by decide +kernel
theorem om_227 : okM 227 = true := by decide +kernel
set_option maxRecDepth 100000 in
theorem ok_227 : q_227.all (okE (jY 227)) = true := by decide +kernel
theorem om_228 : okM 228 = true := by decide +kernel
set_option maxRecDepth 100000 in
theorem ok_228 : q_228.all (okE (jY 228)) = true := by decide +kernel
theorem om_229 : okM 229 = true := by decide +kernel
set_option maxRecDepth 100000 in
theorem ok_229 : q_229.all (okE (jY 229)) = true := by decide +kernel
theorem om_230 : okM 230 = true := by decide +kernel
set_option maxRecDepth 100000 in
theorem ok_230 : q_230.all (okE (jY 230)) = true := by decide +kernel
theorem om_231 : okM 231 = true := by decide +kernel
set_option maxRecDepth 100000 in
theorem ok_231 : q_231.all (okE (jY 231)) = true := by decide +kernel
theorem om_232 : okM 232 = true := by decide +kernel
set_option maxRecDepth 100000 in
theorem ok_232 : q_232.all (okE (jY 232)) = true := by decide +kernel
theorem om_233 : okM 233 = true := by decide +kernel
set_option maxRecDepth 100000 in
theorem ok_233 : q_233.all (okE (jY 233)) = true := by decide +kernel
theorem om_234 : okM 234 = true := by decide +kernel
set_option maxRecDepth 100000 in
theorem ok_234 : q_234.all (okE (jY 234)) = true := by decide +kernel
theorem om_235 : okM 235 = true := by decide +kernel
set_option maxRecDepth 100000 in
theorem ok_235 : q_235.all (okE (jY 235)) = true := by decide +kernel
theorem om_236 : okM 236 = true := by decide +kernel
set_option maxRecDepth 100000 in
theorem ok_236 : q_236.all (okE (jY 236)) = true := by decide +kernel
theorem om_237 : okM 237 = true := by decide +kernel
set_option maxRecDepth 100000 in
theorem ok_237 : q_237.all (okE (jY 237)) = true := by decide +kernel
theorem om_238 : okM 238 = true := by decide +kernel
set_option maxRecDepth 100000 in
theorem ok_238 : q_238.all (okE (jY 238)) = true := by decide +kernel
theorem om_239 : okM 239 = true := by decide +kernel
set_option maxRecDepth 100000 in
theorem ok_239 : q_239.all (okE (jY 239)) = true := by decide +kernel
set_option maxRecDepth 100000 in
theorem okp_7 : ∀ k ∈ List.range' 210 30, jOk k := List.forall_mem_cons.mpr ⟨(⟨om_210, ok_210⟩ : jOk 210), List.forall_mem_cons.mpr ⟨(⟨om_211, ok_211⟩ : jOk 211), List.forall_mem_cons.mpr ⟨(⟨om_212, ok_212⟩ : jOk 212), List.forall_mem_cons.mpr ⟨(⟨om_213, ok_213⟩ : jOk 213), List.forall_mem_cons.mpr ⟨(⟨om_214, ok_214⟩ : jOk 214), List.forall_mem_cons.mpr ⟨(⟨om_215, ok_215⟩ : jOk 215), List.forall_mem_cons.mpr ⟨(⟨om_216, ok_216⟩ : jOk 216), List.forall_mem_cons.mpr ⟨(⟨om_217, ok_217⟩ : jOk 217), List.forall_mem_cons.mpr ⟨(⟨om_218, ok_218⟩ : jOk 218), List.forall_mem_cons.mpr ⟨(⟨om_219, ok_219⟩ : jOk 219), List.forall_mem_cons.mpr ⟨(⟨om_220, ok_220⟩ : jOk 220), List.forall_mem_cons.mpr ⟨(⟨om_221, ok_221⟩ : jOk 221), List.forall_mem_cons.mpr ⟨(⟨om_222, ok_222⟩ : jOk 222), List.forall_mem_cons.mpr ⟨(⟨om_223, ok_223⟩ : jOk 223), List.forall_mem_cons.mpr ⟨(⟨om_224, ok_224⟩ : jOk 224), List.forall_mem_cons.mpr ⟨(⟨om_225, ok_225⟩ : jOk 225), List.forall_mem_cons.mpr ⟨(⟨om_226, ok_226⟩ : jOk 226), List.forall_mem_cons.mpr ⟨(⟨om_227, ok_227⟩ : jOk 227), List.forall_mem_cons.mpr ⟨(⟨om_228, ok_228⟩ : jOk 228), List.forall_mem_cons.mpr ⟨(⟨om_229, ok_229⟩ : jOk 229), List.forall_mem_cons.mpr ⟨(⟨om_230, ok_230⟩ : jOk 230), List.forall_mem_cons.mpr ⟨(⟨om_231, ok_231⟩ : jOk 231), List.forall_mem_cons.mpr ⟨(⟨om_232, ok_232⟩ : jOk 232), List.forall_mem_cons.mpr ⟨(⟨om_233, ok_233⟩ : jOk 233), List.forall_mem_cons.mpr ⟨(⟨om_234, ok_234⟩ : jOk 234), List.forall_mem_cons.mpr ⟨(⟨om_235, ok_235⟩ : jOk 235), List.forall_mem_cons.mpr ⟨(⟨om_236, ok_236⟩ : jOk 236), List.forall_mem_cons.mpr ⟨(⟨om_237, ok_237⟩ : jOk 237), List.forall_mem_cons.mpr ⟨(⟨om_238, ok_238⟩ : jOk 238), List.forall_mem_cons.mpr ⟨(⟨om_239, ok_239⟩ : jOk 239), fun _ h => absurd h List.not_mem_nil⟩⟩⟩⟩⟩⟩⟩⟩⟩⟩⟩⟩⟩⟩⟩⟩⟩⟩⟩⟩⟩⟩⟩⟩⟩⟩⟩⟩⟩⟩
