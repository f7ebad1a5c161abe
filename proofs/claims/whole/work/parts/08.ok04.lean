/-! the words of the methods 120 to 149, checked by the kernel -/
theorem om_120 : okM 120 = true := by decide +kernel
set_option maxRecDepth 100000 in
theorem ok_120 : q_120.all (okE (jY 120)) = true := by decide +kernel
theorem om_121 : okM 121 = true := by decide +kernel
set_option maxRecDepth 100000 in
theorem ok_121 : q_121.all (okE (jY 121)) = true := by decide +kernel
theorem om_122 : okM 122 = true := by decide +kernel
set_option maxRecDepth 100000 in
theorem ok_122 : q_122.all (okE (jY 122)) = true := by decide +kernel
theorem om_123 : okM 123 = true := by decide +kernel
set_option maxRecDepth 100000 in
theorem ok_123 : q_123.all (okE (jY 123)) = true := by decide +kernel
theorem om_124 : okM 124 = true := by decide +kernel
set_option maxRecDepth 100000 in
theorem ok_124 : q_124.all (okE (jY 124)) = true := by decide +kernel
theorem om_125 : okM 125 = true := by decide +kernel
set_option maxRecDepth 100000 in
theorem ok_125 : q_125.all (okE (jY 125)) = true := by decide +kernel
theorem om_126 : okM 126 = true := by decide +kernel
set_option maxRecDepth 100000 in
theorem ok_126 : q_126.all (okE (jY 126)) = true := by decide +kernel
theorem om_127 : okM 127 = true := by decide +kernel
set_option maxRecDepth 100000 in
theorem ok_127 : q_127.all (okE (jY 127)) = true := by decide +kernel
theorem om_128 : okM 128 = true := by decide +kernel
set_option maxRecDepth 100000 in
theorem ok_128 : q_128.all (okE (jY 128)) = true := by decide +kernel
theorem om_129 : okM 129 = true := by decide +kernel
set_option maxRecDepth 100000 in
theorem ok_129 : q_129.all (okE (jY 129)) = true := by decide +kernel
theorem om_130 : okM 130 = true := by decide +kernel
set_option maxRecDepth 100000 in
theorem ok_130 : q_130.all (okE (jY 130)) = true := by decide +kernel
theorem om_131 : okM 131 = true := by decide +kernel
set_option maxRecDepth 100000 in
theorem ok_131 : q_131.all (okE (jY 131)) = true := by decide +kernel
theorem om_132 : okM 132 = true := by decide +kernel
set_option maxRecDepth 100000 in
theorem ok_132 : q_132.all (okE (jY 132)) = true := by decide +kernel
theorem om_133 : okM 133 = true := by decide +kernel
set_option maxRecDepth 100000 in
theorem ok_133 : q_133.all (okE (jY 133)) = true := by decide +kernel
theorem om_134 : okM 134 = true := by decide +kernel
set_option maxRecDepth 100000 in
theorem ok_134 : q_134.all (okE (jY 134)) = true := by decide +kernel
theorem om_135 : okM 135 = true := by decide +kernel
set_option maxRecDepth 100000 in
theorem ok_135 : q_135.all (okE (jY 135)) = true := by decide +kernel
theorem om_136 : okM 136 = true := by decide +kernel
set_option maxRecDepth 100000 in
theorem ok_136 : q_136.all (okE (jY 136)) = true := by decide +kernel
theorem om_137 : okM 137 = true := by decide +kernel
set_option maxRecDepth 100000 in
theorem ok_137 : q_137.all (okE (jY 137)) = true := by decide +kernel
theorem om_138 : okM 138 = true := by decide +kernel
set_option maxRecDepth 100000 in
theorem ok_138 : q_138.all (okE (jY 138)) = true := by decide +kernel
theorem om_139 : okM 139 = true := by decide +kernel
set_option maxRecDepth 100000 in
theorem ok_139 : q_139.all (okE (jY 139)) = true := by decide +kernel
theorem om_140 : okM 140 = true := by decide +kernel
set_option maxRecDepth 100000 in
theorem ok_140 : q_140.all (okE (jY 140)) = true := by decide +kernel
theorem om_141 : okM 141 = true := by decide +kernel
set_option maxRecDepth 100000 in
theorem ok_141 : q_141.all (okE (jY 141)) = true := by decide +kernel
theorem om_142 : okM 142 = true := by decide +kernel
set_option maxRecDepth 100000 in
theorem ok_142 : q_142.all (okE (jY 142)) = true := by decide +kernel
theorem om_143 : okM 143 = true := by decide +kernel
set_option maxRecDepth 100000 in
theorem ok_143 : q_143.all (okE (jY 143)) = true := by decide +kernel
theorem om_144 : okM 144 = true := by decide +kernel
set_option maxRecDepth 100000 in
theorem ok_144 : q_144.all (okE (jY 144)) = true := by decide +kernel
theorem om_145 : okM 145 = true := by decide +kernel
set_option maxRecDepth 100000 in
theorem ok_145 : q_145.all (okE (jY 145)) = true := by decide +kernel
theorem om_146 : okM 146 = true := by decide +kernel
set_option maxRecDepth 100000 in
theorem ok_146 : q_146.all (okE (jY 146)) = true := by decide +kernel
theorem om_147 : okM 147 = true := by decide +kernel
set_option maxRecDepth 100000 in
theorem ok_147 : q_147.all (okE (jY 147)) = true := by decide +kernel
theorem om_148 : okM 148 = true := by decide +kernel
set_option maxRecDepth 100000 in
theorem ok_148 : q_148.all (okE (jY 148)) = true := by decide +kernel
theorem om_149 : okM 149 = true := by decide +kernel
set_option maxRecDepth 100000 in
theorem ok_149 : q_149.all (okE (jY 149)) = true := by decide +kernel
set_option maxRecDepth 100000 in
theorem okp_4 : ∀ k ∈ List.range' 120 30, jOk k := List.forall_mem_cons.mpr ⟨(⟨om_120, ok_120⟩ : jOk 120), List.forall_mem_cons.mpr ⟨(⟨om_121, ok_121⟩ : jOk 121), List.forall_mem_cons.mpr ⟨(⟨om_122, ok_122⟩ : jOk 122), List.forall_mem_cons.mpr ⟨(⟨om_123, ok_123⟩ : jOk 123), List.forall_mem_cons.mpr ⟨(⟨om_124, ok_124⟩ : jOk 124), List.forall_mem_cons.mpr ⟨(⟨om_125, ok_125⟩ : jOk 125), List.forall_mem_cons.mpr ⟨(⟨om_126, ok_126⟩ : jOk 126), List.forall_mem_cons.mpr ⟨(⟨om_127, ok_127⟩ : jOk 127), List.forall_mem_cons.mpr ⟨(⟨om_128, ok_128⟩ : jOk 128), List.forall_mem_cons.mpr ⟨(⟨om_129, ok_129⟩ : jOk 129), List.forall_mem_cons.mpr ⟨(⟨om_130, ok_130⟩ : jOk 130), List.forall_mem_cons.mpr ⟨(⟨om_131, ok_131⟩ : jOk 131), List.forall_mem_cons.mpr ⟨(⟨om_132, ok_132⟩ : jOk 132), List.forall_mem_cons.mpr ⟨(⟨om_133, ok_133⟩ : jOk 133), List.forall_mem_cons.mpr ⟨(⟨om_134, ok_134⟩ : jOk 134), List.forall_mem_cons.mpr ⟨(⟨om_135, ok_135⟩ : jOk 135), List.forall_mem_cons.mpr ⟨(⟨om_136, ok_136⟩ : jOk 136), List.forall_mem_cons.mpr ⟨(⟨om_137, ok_137⟩ : jOk 137), List.forall_mem_cons.mpr ⟨(⟨om_138, ok_138⟩ : jOk 138), List.forall_mem_cons.mpr ⟨(⟨om_139, ok_139⟩ : jOk 139), List.forall_mem_cons.mpr ⟨(⟨om_140, ok_140⟩ : jOk 140), List.forall_mem_cons.mpr ⟨(⟨om_141, ok_141⟩ : jOk 141), List.forall_mem_cons.mpr ⟨(⟨om_142, ok_142⟩ : jOk 142), List.forall_mem_cons.mpr ⟨(⟨om_143, ok_143⟩ : jOk 143), List.forall_mem_cons.mpr ⟨(⟨om_144, ok_144⟩ : jOk 144), List.forall_mem_cons.mpr ⟨(⟨om_145, ok_145⟩ : jOk 145), List.forall_mem_cons.mpr ⟨(⟨om_146, ok_146⟩ : jOk 146), List.forall_mem_cons.mpr ⟨(⟨om_147, ok_147⟩ : jOk 147), List.forall_mem_cons.mpr ⟨(⟨om_148, ok_148⟩ : jOk 148), List.forall_mem_cons.mpr ⟨(⟨om_149, ok_149⟩ : jOk 149), fun _ h => absurd h List.not_mem_nil⟩⟩⟩⟩⟩⟩⟩⟩⟩⟩⟩⟩⟩⟩⟩⟩⟩⟩⟩⟩⟩⟩⟩⟩⟩⟩⟩⟩⟩⟩
