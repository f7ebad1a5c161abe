/-! the words of the methods 150 to 179, checked by the kernel -/
theorem om_150 : okM 150 = true := by decide +kernel
set_option maxRecDepth 100000 in
theorem ok_150 : q_150.all (okE (jY 150)) = true := by decide +kernel
theorem om_151 : okM 151 = true := by decide +kernel
set_option maxRecDepth 100000 in
theorem ok_151 : q_151.all (okE (jY 151)) = true := by decide +kernel
theorem om_152 : okM 152 = true := by decide +kernel
set_option maxRecDepth 100000 in
theorem ok_152 : q_152.all (okE (jY 152)) = true := by decide +kernel
theorem om_153 : okM 153 = true := by decide +kernel
set_option maxRecDepth 100000 in
theorem ok_153 : q_153.all (okE (jY 153)) = true := by decide +kernel
theorem om_154 : okM 154 = true := by decide +kernel
set_option maxRecDepth 100000 in
theorem ok_154 : q_154.all (okE (jY 154)) = true := by decide +kernel
theorem om_155 : okM 155 = true := by decide +kernel
set_option maxRecDepth 100000 in
theorem ok_155 : q_155.all (okE (jY 155)) = true := by decide +kernel
theorem om_156 : okM 156 = true := by decide +kernel
set_option maxRecDepth 100000 in
theorem ok_156 : q_156.all (okE (jY 156)) = true := by decide +kernel
theorem om_157 : okM 157 = true := by decide +kernel
set_option maxRecDepth 100000 in
theorem ok_157 : q_157.all (okE (jY 157)) = true := by decide +kernel
theorem om_158 : okM 158 = true := by decide +kernel
set_option maxRecDepth 100000 in
theorem ok_158 : q_158.all (okE (jY 158)) = true := by decide +kernel
theorem om_159 : okM 159 = true := by decide +kernel
set_option maxRecDepth 100000 in
theorem ok_159 : q_159.all (okE (jY 159)) = true := by decide +kernel
theorem om_160 : okM 160 = true := by decide +kernel
set_option maxRecDepth 100000 in
theorem ok_160 : q_160.all (okE (jY 160)) = true := by decide +kernel
theorem om_161 : okM 161 = true := by decide +kernel
set_option maxRecDepth 100000 in
theorem ok_161 : q_161.all (okE (jY 161)) = true := by decide +kernel
theorem om_162 : okM 162 = true := by decide +kernel
set_option maxRecDepth 100000 in
theorem ok_162 : q_162.all (okE (jY 162)) = true := by decide +kernel
theorem om_163 : okM 163 = true := by decide +kernel
set_option maxRecDepth 100000 in
theorem ok_163 : q_163.all (okE (jY 163)) = true := by decide +kernel
theorem om_164 : okM 164 = true := by decide +kernel
set_option maxRecDepth 100000 in
theorem ok_164 : q_164.all (okE (jY 164)) = true := by decide +kernel
theorem om_165 : okM 165 = true := by decide +kernel
set_option maxRecDepth 100000 in
theorem ok_165 : q_165.all (okE (jY 165)) = true := by decide +kernel
theorem om_166 : okM 166 = true := by decide +kernel
set_option maxRecDepth 100000 in
theorem ok_166 : q_166.all (okE (jY 166)) = true := by decide +kernel
theorem om_167 : okM 167 = true := by decide +kernel
set_option maxRecDepth 100000 in
theorem ok_167 : q_167.all (okE (jY 167)) = true := by decide +kernel
theorem om_168 : okM 168 = true := by decide +kernel
set_option maxRecDepth 100000 in
theorem ok_168 : q_168.all (okE (jY 168)) = true := by decide +kernel
theorem om_169 : okM 169 = true := by decide +kernel
set_option maxRecDepth 100000 in
theorem ok_169 : q_169.all (okE (jY 169)) = true := by decide +kernel
theorem om_170 : okM 170 = true := by decide +kernel
set_option maxRecDepth 100000 in
theorem ok_170 : q_170.all (okE (jY 170)) = true := by decide +kernel
theorem om_171 : okM 171 = true := by decide +kernel
set_option maxRecDepth 100000 in
theorem ok_171 : q_171.all (okE (jY 171)) = true := by decide +kernel
theorem om_172 : okM 172 = true := by decide +kernel
set_option maxRecDepth 100000 in
theorem ok_172 : q_172.all (okE (jY 172)) = true := by decide +kernel
theorem om_173 : okM 173 = true := by decide +kernel
set_option maxRecDepth 100000 in
theorem ok_173 : q_173.all (okE (jY 173)) = true := by decide +kernel
theorem om_174 : okM 174 = true := by decide +kernel
set_option maxRecDepth 100000 in
theorem ok_174 : q_174.all (okE (jY 174)) = true := by decide +kernel
theorem om_175 : okM 175 = true := by decide +kernel
set_option maxRecDepth 100000 in
theorem ok_175 : q_175.all (okE (jY 175)) = true := by decide +kernel
theorem om_176 : okM 176 = true := by decide +kernel
set_option maxRecDepth 100000 in
theorem ok_176 : q_176.all (okE (jY 176)) = true := by decide +kernel
theorem om_177 : okM 177 = true := by decide +kernel
set_option maxRecDepth 100000 in
theorem ok_177 : q_177.all (okE (jY 177)) = true := by decide +kernel
theorem om_178 : okM 178 = true := by decide +kernel
set_option maxRecDepth 100000 in
theorem ok_178 : q_178.all (okE (jY 178)) = true := by decide +kernel
theorem om_179 : okM 179 = true := by decide +kernel
set_option maxRecDepth 100000 in
theorem ok_179 : q_179.all (okE (jY 179)) = true := by decide +kernel
set_option maxRecDepth 100000 in
theorem okp_5 : ∀ k ∈ List.range' 150 30, jOk k := List.forall_mem_cons.mpr ⟨(⟨om_150, ok_150⟩ : jOk 150), List.forall_mem_cons.mpr ⟨(⟨om_151, ok_151⟩ : jOk 151), List.forall_mem_cons.mpr ⟨(⟨om_152, ok_152⟩ : jOk 152), List.forall_mem_cons.mpr ⟨(⟨om_153, ok_153⟩ : jOk 153), List.forall_mem_cons.mpr ⟨(⟨om_154, ok_154⟩ : jOk 154), List.forall_mem_cons.mpr ⟨(⟨om_155, ok_155⟩ : jOk 155), List.forall_mem_cons.mpr ⟨(⟨om_156, ok_156⟩ : jOk 156), List.forall_mem_cons.mpr ⟨(⟨om_157, ok_157⟩ : jOk 157), List.forall_mem_cons.mpr ⟨(⟨om_158, ok_158⟩ : jOk 158), List.forall_mem_cons.mpr ⟨(⟨om_159, ok_159⟩ : jOk 159), List.forall_mem_cons.mpr ⟨(⟨om_160, ok_160⟩ : jOk 160), List.forall_mem_cons.mpr ⟨(⟨om_161, ok_161⟩ : jOk 161), List.forall_mem_cons.mpr ⟨(⟨om_162, ok_162⟩ : jOk 162), List.forall_mem_cons.mpr ⟨(⟨om_163, ok_163⟩ : jOk 163), List.forall_mem_cons.mpr ⟨(⟨om_164, ok_164⟩ : jOk 164), List.forall_mem_cons.mpr ⟨(⟨om_165, ok_165⟩ : jOk 165), List.forall_mem_cons.mpr ⟨(⟨om_166, ok_166⟩ : jOk 166), List.forall_mem_cons.mpr ⟨(⟨om_167, ok_167⟩ : jOk 167), List.forall_mem_cons.mpr ⟨(⟨om_168, ok_168⟩ : jOk 168), List.forall_mem_cons.mpr ⟨(⟨om_169, ok_169⟩ : jOk 169), List.forall_mem_cons.mpr ⟨(⟨om_170, ok_170⟩ : jOk 170), List.forall_mem_cons.mpr ⟨(⟨om_171, ok_171⟩ : jOk 171), List.forall_mem_cons.mpr ⟨(⟨om_172, ok_172⟩ : jOk 172), List.forall_mem_cons.mpr ⟨(⟨om_173, ok_173⟩ : jOk 173), List.forall_mem_cons.mpr ⟨(⟨om_174, ok_174⟩ : jOk 174), List.forall_mem_cons.mpr ⟨(⟨om_175, ok_175⟩ : jOk 175), List.forall_mem_cons.mpr ⟨(⟨om_176, ok_176⟩ : jOk 176), List.forall_mem_cons.mpr ⟨(⟨om_177, ok_177⟩ : jOk 177), List.forall_mem_cons.mpr ⟨(⟨om_178, ok_178⟩ : jOk 178), List.forall_mem_cons.mpr ⟨(⟨om_179, ok_179⟩ : jOk 179), fun _ h => absurd h List.not_mem_nil⟩⟩⟩⟩⟩⟩⟩⟩⟩⟩⟩⟩⟩⟩⟩⟩⟩⟩⟩⟩⟩⟩⟩⟩⟩⟩⟩⟩⟩⟩
