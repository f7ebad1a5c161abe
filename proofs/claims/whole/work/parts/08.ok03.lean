/-! the words of the methods 90 to 119, checked by the kernel -/
theorem om_90 : okM 90 = true := by decide +kernel
set_option maxRecDepth 100000 in
theorem ok_90 : q_90.all (okE (jY 90)) = true := by decide +kernel
theorem om_91 : okM 91 = true := by decide +kernel
set_option maxRecDepth 100000 in
theorem ok_91 : q_91.all (okE (jY 91)) = true := by decide +kernel
theorem om_92 : okM 92 = true := by decide +kernel
set_option maxRecDepth 100000 in
theorem ok_92 : q_92.all (okE (jY 92)) = true := by decide +kernel
theorem om_93 : okM 93 = true := by decide +kernel
set_option maxRecDepth 100000 in
theorem ok_93 : q_93.all (okE (jY 93)) = true := by decide +kernel
theorem om_94 : okM 94 = true := by decide +kernel
set_option maxRecDepth 100000 in
theorem ok_94 : q_94.all (okE (jY 94)) = true := by decide +kernel
theorem om_95 : okM 95 = true := by decide +kernel
set_option maxRecDepth 100000 in
theorem ok_95 : q_95.all (okE (jY 95)) = true := by decide +kernel
theorem om_96 : okM 96 = true := by decide +kernel
set_option maxRecDepth 100000 in
theorem ok_96 : q_96.all (okE (jY 96)) = true := by decide +kernel
theorem om_97 : okM 97 = true := by decide +kernel
set_option maxRecDepth 100000 in
theorem ok_97 : q_97.all (okE (jY 97)) = true := by decide +kernel
theorem om_98 : okM 98 = true := by decide +kernel
set_option maxRecDepth 100000 in
theorem ok_98 : q_98.all (okE (jY 98)) = true := by decide +kernel
theorem om_99 : okM 99 = true := by decide +kernel
set_option maxRecDepth 100000 in
theorem ok_99 : q_99.all (okE (jY 99)) = true := by decide +kernel
theorem om_100 : okM 100 = true := by decide +kernel
set_option maxRecDepth 100000 in
theorem ok_100 : q_100.all (okE (jY 100)) = true := by decide +kernel
theorem om_101 : okM 101 = true := by decide +kernel
set_option maxRecDepth 100000 in
theorem ok_101 : q_101.all (okE (jY 101)) = true := by decide +kernel
theorem om_102 : okM 102 = true := by decide +kernel
set_option maxRecDepth 100000 in
theorem ok_102 : q_102.all (okE (jY 102)) = true := by decide +kernel
theorem om_103 : okM 103 = true := by decide +kernel
set_option maxRecDepth 100000 in
theorem ok_103 : q_103.all (okE (jY 103)) = true := by decide +kernel
theorem om_104 : okM 104 = true := by decide +kernel
set_option maxRecDepth 100000 in
theorem ok_104 : q_104.all (okE (jY 104)) = true := by decide +kernel
theorem om_105 : okM 105 = true := by decide +kernel
set_option maxRecDepth 100000 in
theorem ok_105 : q_105.all (okE (jY 105)) = true := by decide +kernel
theorem om_106 : okM 106 = true := by decide +kernel
set_option maxRecDepth 100000 in
theorem ok_106 : q_106.all (okE (jY 106)) = true := by decide +kernel
theorem om_107 : okM 107 = true := by decide +kernel
set_option maxRecDepth 100000 in
theorem ok_107 : q_107.all (okE (jY 107)) = true := by decide +kernel
theorem om_108 : okM 108 = true := by decide +kernel
set_option maxRecDepth 100000 in
theorem ok_108 : q_108.all (okE (jY 108)) = true := by decide +kernel
theorem om_109 : okM 109 = true := by decide +kernel
set_option maxRecDepth 100000 in
theorem ok_109 : q_109.all (okE (jY 109)) = true := by decide +kernel
theorem om_110 : okM 110 = true := by decide +kernel
set_option maxRecDepth 100000 in
theorem ok_110 : q_110.all (okE (jY 110)) = true := by decide +kernel
theorem om_111 : okM 111 = true := by decide +kernel
set_option maxRecDepth 100000 in
theorem ok_111 : q_111.all (okE (jY 111)) = true := by decide +kernel
theorem om_112 : okM 112 = true := by decide +kernel
set_option maxRecDepth 100000 in
theorem ok_112 : q_112.all (okE (jY 112)) = true := by decide +kernel
theorem om_113 : okM 113 = true := by decide +kernel
set_option maxRecDepth 100000 in
theorem ok_113 : q_113.all (okE (jY 113)) = true := by decide +kernel
theorem om_114 : okM 114 = true := by decide +kernel
set_option maxRecDepth 100000 in
theorem ok_114 : q_114.all (okE (jY 114)) = true := by decide +kernel
theorem om_115 : okM 115 = true := by decide +kernel
set_option maxRecDepth 100000 in
theorem ok_115 : q_115.all (okE (jY 115)) = true := by decide +kernel
theorem om_116 : okM 116 = true := by decide +kernel
set_option maxRecDepth 100000 in
theorem ok_116 : q_116.all (okE (jY 116)) = true := by decide +kernel
theorem om_117 : okM 117 = true := by decide +kernel
set_option maxRecDepth 100000 in
theorem ok_117 : q_117.all (okE (jY 117)) = true := by decide +kernel
theorem om_118 : okM 118 = true := by decide +kernel
set_option maxRecDepth 100000 in
theorem ok_118 : q_118.all (okE (jY 118)) = true := by decide +kernel
theorem om_119 : okM 119 = true := by decide +kernel
set_option maxRecDepth 100000 in
theorem ok_119 : q_119.all (okE (jY 119)) = true := by decide +kernel
set_option maxRecDepth 100000 in
theorem okp_3 : ∀ k ∈ List.range' 90 30, jOk k := List.forall_mem_cons.mpr ⟨(⟨om_90, ok_90⟩ : jOk 90), List.forall_mem_cons.mpr ⟨(⟨om_91, ok_91⟩ : jOk 91), List.forall_mem_cons.mpr ⟨(⟨om_92, ok_92⟩ : jOk 92), List.forall_mem_cons.mpr ⟨(⟨om_93, ok_93⟩ : jOk 93), List.forall_mem_cons.mpr ⟨(⟨om_94, ok_94⟩ : jOk 94), List.forall_mem_cons.mpr ⟨(⟨om_95, ok_95⟩ : jOk 95), List.forall_mem_cons.mpr ⟨(⟨om_96, ok_96⟩ : jOk 96), List.forall_mem_cons.mpr ⟨(⟨om_97, ok_97⟩ : jOk 97), List.forall_mem_cons.mpr ⟨(⟨om_98, ok_98⟩ : jOk 98), List.forall_mem_cons.mpr ⟨(⟨om_99, ok_99⟩ : jOk 99), List.forall_mem_cons.mpr ⟨(⟨om_100, ok_100⟩ : jOk 100), List.forall_mem_cons.mpr ⟨(⟨om_101, ok_101⟩ : jOk 101), List.forall_mem_cons.mpr ⟨(⟨om_102, ok_102⟩ : jOk 102), List.forall_mem_cons.mpr ⟨(⟨om_103, ok_103⟩ : jOk 103), List.forall_mem_cons.mpr ⟨(⟨om_104, ok_104⟩ : jOk 104), List.forall_mem_cons.mpr ⟨(⟨om_105, ok_105⟩ : jOk 105), List.forall_mem_cons.mpr ⟨(⟨om_106, ok_106⟩ : jOk 106), List.forall_mem_cons.mpr ⟨(⟨om_107, ok_107⟩ : jOk 107), List.forall_mem_cons.mpr ⟨(⟨om_108, ok_108⟩ : jOk 108), List.forall_mem_cons.mpr ⟨(⟨om_109, ok_109⟩ : jOk 109), List.forall_mem_cons.mpr ⟨(⟨om_110, ok_110⟩ : jOk 110), List.forall_mem_cons.mpr ⟨(⟨om_111, ok_111⟩ : jOk 111), List.forall_mem_cons.mpr ⟨(⟨om_112, ok_112⟩ : jOk 112), List.forall_mem_cons.mpr ⟨(⟨om_113, ok_113⟩ : jOk 113), List.forall_mem_cons.mpr ⟨(⟨om_114, ok_114⟩ : jOk 114), List.forall_mem_cons.mpr ⟨(⟨om_115, ok_115⟩ : jOk 115), List.forall_mem_cons.mpr ⟨(⟨om_116, ok_116⟩ : jOk 116), List.forall_mem_cons.mpr ⟨(⟨om_117, ok_117⟩ : jOk 117), List.forall_mem_cons.mpr ⟨(⟨om_118, ok_118⟩ : jOk 118), List.forall_mem_cons.mpr ⟨(⟨om_119, ok_119⟩ : jOk 119), fun _ h => absurd h List.not_mem_nil⟩⟩⟩⟩⟩⟩⟩⟩⟩⟩⟩⟩⟩⟩⟩⟩⟩⟩⟩⟩⟩⟩⟩⟩⟩⟩⟩⟩⟩⟩
