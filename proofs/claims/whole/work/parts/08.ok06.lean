/-! the words of the methods 180 to 209, checked by the kernel -/
theorem om_180 : okM 180 = true := by decide +kernel
set_option maxRecDepth 100000 in
theorem ok_180 : q_180.all (okE (jY 180)) = true := by decide +kernel
theorem om_181 : okM 181 = true := by decide +kernel
set_option maxRecDepth 100000 in
theorem ok_181 : q_181.all (okE (jY 181)) = true := by decide +kernel
theorem om_182 : okM 182 = true := by decide +kernel
set_option maxRecDepth 100000 in
theorem ok_182 : q_182.all (okE (jY 182)) = true := by decide +kernel
theorem om_183 : okM 183 = true := by decide +kernel
set_option maxRecDepth 100000 in
theorem ok_183 : q_183.all (okE (jY 183)) = true := by decide +kernel
theorem om_184 : okM 184 = true := by decide +kernel
set_option maxRecDepth 100000 in
theorem ok_184 : q_184.all (okE (jY 184)) = true := by decide +kernel
theorem om_185 : okM 185 = true := by decide +kernel
set_option maxRecDepth 100000 in
theorem ok_185 : q_185.all (okE (jY 185)) = true := by decide +kernel
theorem om_186 : okM 186 = true := by decide +kernel
set_option maxRecDepth 100000 in
theorem ok_186 : q_186.all (okE (jY 186)) = true := by decide +kernel
theorem om_187 : okM 187 = true := by decide +kernel
set_option maxRecDepth 100000 in
theorem ok_187 : q_187.all (okE (jY 187)) = true := by decide +kernel
theorem om_188 : okM 188 = true := by decide +kernel
set_option maxRecDepth 100000 in
theorem ok_188 : q_188.all (okE (jY 188)) = true := by decide +kernel
theorem om_189 : okM 189 = true := by decide +kernel
set_option maxRecDepth 100000 in
theorem ok_189 : q_189.all (okE (jY 189)) = true := by decide +kernel
theorem om_190 : okM 190 = true := by decide +kernel
set_option maxRecDepth 100000 in
theorem ok_190 : q_190.all (okE (jY 190)) = true := by decide +kernel
theorem om_191 : okM 191 = true := by decide +kernel
set_option maxRecDepth 100000 in
theorem ok_191 : q_191.all (okE (jY 191)) = true := by decide +kernel
theorem om_192 : okM 192 = true := by decide +kernel
set_option maxRecDepth 100000 in
theorem ok_192 : q_192.all (okE (jY 192)) = true := by decide +kernel
theorem om_193 : okM 193 = true := by decide +kernel
set_option maxRecDepth 100000 in
theorem ok_193 : q_193.all (okE (jY 193)) = true := by decide +kernel
theorem om_194 : okM 194 = true := by decide +kernel
set_option maxRecDepth 100000 in
theorem ok_194 : q_194.all (okE (jY 194)) = true := by decide +kernel
theorem om_195 : okM 195 = true := by decide +kernel
set_option maxRecDepth 100000 in
theorem ok_195 : q_195.all (okE (jY 195)) = true := by decide +kernel
theorem om_196 : okM 196 = true := by decide +kernel
set_option maxRecDepth 100000 in
theorem ok_196 : q_196.all (okE (jY 196)) = true := by decide +kernel
theorem om_197 : okM 197 = true := by decide +kernel
set_option maxRecDepth 100000 in
theorem ok_197 : q_197.all (okE (jY 197)) = true := by decide +kernel
theorem om_198 : okM 198 = true := by decide +kernel
set_option maxRecDepth 100000 in
theorem ok_198 : q_198.all (okE (jY 198)) = true := by decide +kernel
theorem om_199 : okM 199 = true := by decide +kernel
set_option maxRecDepth 100000 in
theorem ok_199 : q_199.all (okE (jY 199)) = true := by decide +kernel
theorem om_200 : okM 200 = true := by decide +kernel
set_option maxRecDepth 100000 in
theorem ok_200 : q_200.all (okE (jY 200)) = true := by decide +kernel
theorem om_201 : okM 201 = true := by decide +kernel
set_option maxRecDepth 100000 in
theorem ok_201 : q_201.all (okE (jY 201)) = true := by decide +kernel
theorem om_202 : okM 202 = true := by decide +kernel
set_option maxRecDepth 100000 in
theorem ok_202 : q_202.all (okE (jY 202)) = true := by decide +kernel
theorem om_203 : okM 203 = true := by decide +kernel
set_option maxRecDepth 100000 in
theorem ok_203 : q_203.all (okE (jY 203)) = true := by decide +kernel
theorem om_204 : okM 204 = true := by decide +kernel
set_option maxRecDepth 100000 in
theorem ok_204 : q_204.all (okE (jY 204)) = true := by decide +kernel
theorem om_205 : okM 205 = true := by decide +kernel
set_option maxRecDepth 100000 in
theorem ok_205 : q_205.all (okE (jY 205)) = true := by decide +kernel
theorem om_206 : okM 206 = true := by decide +kernel
set_option maxRecDepth 100000 in
theorem ok_206 : q_206.all (okE (jY 206)) = true := by decide +kernel
theorem om_207 : okM 207 = true := by decide +kernel
set_option maxRecDepth 100000 in
theorem ok_207 : q_207.all (okE (jY 207)) = true := by decide +kernel
theorem om_208 : okM 208 = true := by decide +kernel
set_option maxRecDepth 100000 in
theorem ok_208 : q_208.all (okE (jY 208)) = true := by decide +kernel
theorem om_209 : okM 209 = true := by decide +kernel
set_option maxRecDepth 100000 in
theorem ok_209 : q_209.all (okE (jY 209)) = true := by decide +kernel
set_option maxRecDepth 100000 in
theorem okp_6 : ∀ k ∈ List.range' 180 30, jOk k := List.forall_mem_cons.mpr ⟨(⟨om_180, ok_180⟩ : jOk 180), List.forall_mem_cons.mpr ⟨(⟨om_181, ok_181⟩ : jOk 181), List.forall_mem_cons.mpr ⟨(⟨om_182, ok_182⟩ : jOk 182), List.forall_mem_cons.mpr ⟨(⟨om_183, ok_183⟩ : jOk 183), List.forall_mem_cons.mpr ⟨(⟨om_184, ok_184⟩ : jOk 184), List.forall_mem_cons.mpr ⟨(⟨om_185, ok_185⟩ : jOk 185), List.forall_mem_cons.mpr ⟨(⟨om_186, ok_186⟩ : jOk 186), List.forall_mem_cons.mpr ⟨(⟨om_187, ok_187⟩ : jOk 187), List.forall_mem_cons.mpr ⟨(⟨om_188, ok_188⟩ : jOk 188), List.forall_mem_cons.mpr ⟨(⟨om_189, ok_189⟩ : jOk 189), List.forall_mem_cons.mpr ⟨(⟨om_190, ok_190⟩ : jOk 190), List.forall_mem_cons.mpr ⟨(⟨om_191, ok_191⟩ : jOk 191), List.forall_mem_cons.mpr ⟨(⟨om_192, ok_192⟩ : jOk 192), List.forall_mem_cons.mpr ⟨(⟨om_193, ok_193⟩ : jOk 193), List.forall_mem_cons.mpr ⟨(⟨om_194, ok_194⟩ : jOk 194), List.forall_mem_cons.mpr ⟨(⟨om_195, ok_195⟩ : jOk 195), List.forall_mem_cons.mpr ⟨(⟨om_196, ok_196⟩ : jOk 196), List.forall_mem_cons.mpr ⟨(⟨om_197, ok_197⟩ : jOk 197), List.forall_mem_cons.mpr ⟨(⟨om_198, ok_198⟩ : jOk 198), List.forall_mem_cons.mpr ⟨(⟨om_199, ok_199⟩ : jOk 199), List.forall_mem_cons.mpr ⟨(⟨om_200, ok_200⟩ : jOk 200), List.forall_mem_cons.mpr ⟨(⟨om_201, ok_201⟩ : jOk 201), List.forall_mem_cons.mpr ⟨(⟨om_202, ok_202⟩ : jOk 202), List.forall_mem_cons.mpr ⟨(⟨om_203, ok_203⟩ : jOk 203), List.forall_mem_cons.mpr ⟨(⟨om_204, ok_204⟩ : jOk 204), List.forall_mem_cons.mpr ⟨(⟨om_205, ok_205⟩ : jOk 205), List.forall_mem_cons.mpr ⟨(⟨om_206, ok_206⟩ : jOk 206), List.forall_mem_cons.mpr ⟨(⟨om_207, ok_207⟩ : jOk 207), List.forall_mem_cons.mpr ⟨(⟨om_208, ok_208⟩ : jOk 208), List.forall_mem_cons.mpr ⟨(⟨om_209, ok_209⟩ : jOk 209), fun _ h => absurd h List.not_mem_nil⟩⟩⟩⟩⟩⟩⟩⟩⟩⟩⟩⟩⟩⟩⟩⟩⟩⟩⟩⟩⟩⟩⟩⟩⟩⟩⟩⟩⟩⟩
