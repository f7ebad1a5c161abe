/-! the words of the methods 60 to 89, checked by the kernel -/
theorem om_60 : okM 60 = true := by decide +kernel
set_option maxRecDepth 100000 in
theorem ok_60 : q_60.all (okE (jY 60)) = true := by decide +kernel
theorem om_61 : okM 61 = true := by decide +kernel
set_option maxRecDepth 100000 in
theorem ok_61 : q_61.all (okE (jY 61)) = true := by decide +kernel
theorem om_62 : okM 62 = true := by decide +kernel
set_option maxRecDepth 100000 in
theorem ok_62 : q_62.all (okE (jY 62)) = true := by decide +kernel
theorem om_63 : okM 63 = true := by decide +kernel
set_option maxRecDepth 100000 in
theorem ok_63 : q_63.all (okE (jY 63)) = true := by decide +kernel
theorem om_64 : okM 64 = true := by decide +kernel
set_option maxRecDepth 100000 in
theorem ok_64 : q_64.all (okE (jY 64)) = true := by decide +kernel
theorem om_65 : okM 65 = true := by decide +kernel
set_option maxRecDepth 100000 in
theorem ok_65 : q_65.all (okE (jY 65)) = true := by decide +kernel
theorem om_66 : okM 66 = true := by decide +kernel
set_option maxRecDepth 100000 in
theorem ok_66 : q_66.all (okE (jY 66)) = true := by decide +kernel
theorem om_67 : okM 67 = true := by decide +kernel
set_option maxRecDepth 100000 in
theorem ok_67 : q_67.all (okE (jY 67)) = true := by decide +kernel
theorem om_68 : okM 68 = true := by decide +kernel
set_option maxRecDepth 100000 in
theorem ok_68 : q_68.all (okE (jY 68)) = true := by decide +kernel
theorem om_69 : okM 69 = true := by decide +kernel
set_option maxRecDepth 100000 in
theorem ok_69 : q_69.all (okE (jY 69)) = true := by decide +kernel
theorem om_70 : okM 70 = true := by decide +kernel
set_option maxRecDepth 100000 in
theorem ok_70 : q_70.all (okE (jY 70)) = true := by decide +kernel
theorem om_71 : okM 71 = true := by decide +kernel
set_option maxRecDepth 100000 in
theorem ok_71 : q_71.all (okE (jY 71)) = true := by decide +kernel
theorem om_72 : okM 72 = true := by decide +kernel
set_option maxRecDepth 100000 in
theorem ok_72 : q_72.all (okE (jY 72)) = true := by decide +kernel
theorem om_73 : okM 73 = true := by decide +kernel
set_option maxRecDepth 100000 in
theorem ok_73 : q_73.all (okE (jY 73)) = true := by decide +kernel
theorem om_74 : okM 74 = true := by decide +kernel
set_option maxRecDepth 100000 in
theorem ok_74 : q_74.all (okE (jY 74)) = true := by decide +kernel
theorem om_75 : okM 75 = true := by decide +kernel
set_option maxRecDepth 100000 in
theorem ok_75 : q_75.all (okE (jY 75)) = true := by decide +kernel
theorem om_76 : okM 76 = true := by decide +kernel
set_option maxRecDepth 100000 in
theorem ok_76 : q_76.all (okE (jY 76)) = true := by decide +kernel
theorem om_77 : okM 77 = true := by decide +kernel
set_option maxRecDepth 100000 in
theorem ok_77 : q_77.all (okE (jY 77)) = true := by decide +kernel
theorem om_78 : okM 78 = true := by decide +kernel
set_option maxRecDepth 100000 in
theorem ok_78 : q_78.all (okE (jY 78)) = true := by decide +kernel
theorem om_79 : okM 79 = true := by decide +kernel
set_option maxRecDepth 100000 in
theorem ok_79 : q_79.all (okE (jY 79)) = true := by decide +kernel
theorem om_80 : okM 80 = true := by decide +kernel
set_option maxRecDepth 100000 in
theorem ok_80 : q_80.all (okE (jY 80)) = true := by decide +kernel
theorem om_81 : okM 81 = true := by decide +kernel
set_option maxRecDepth 100000 in
theorem ok_81 : q_81.all (okE (jY 81)) = true := by decide +kernel
theorem om_82 : okM 82 = true := by decide +kernel
set_option maxRecDepth 100000 in
theorem ok_82 : q_82.all (okE (jY 82)) = true := by decide +kernel
theorem om_83 : okM 83 = true := by decide +kernel
set_option maxRecDepth 100000 in
theorem ok_83 : q_83.all (okE (jY 83)) = true := by decide +kernel
theorem om_84 : okM 84 = true := by decide +kernel
set_option maxRecDepth 100000 in
theorem ok_84 : q_84.all (okE (jY 84)) = true := by decide +kernel
theorem om_85 : okM 85 = true := by decide +kernel
set_option maxRecDepth 100000 in
theorem ok_85 : q_85.all (okE (jY 85)) = true := by decide +kernel
theorem om_86 : okM 86 = true := by decide +kernel
set_option maxRecDepth 100000 in
theorem ok_86 : q_86.all (okE (jY 86)) = true := by decide +kernel
theorem om_87 : okM 87 = true := by decide +kernel
set_option maxRecDepth 100000 in
theorem ok_87 : q_87.all (okE (jY 87)) = true := by decide +kernel
theorem om_88 : okM 88 = true := by decide +kernel
set_option maxRecDepth 100000 in
theorem ok_88 : q_88.all (okE (jY 88)) = true := by decide +kernel
theorem om_89 : okM 89 = true := by decide +kernel
set_option maxRecDepth 100000 in
theorem ok_89 : q_89.all (okE (jY 89)) = true := by decide +kernel
set_option maxRecDepth 100000 in
theorem okp_2 : ∀ k ∈ List.range' 60 30, jOk k := List.forall_mem_cons.mpr ⟨(⟨om_60, ok_60⟩ : jOk 60), List.forall_mem_cons.mpr ⟨(⟨om_61, ok_61⟩ : jOk 61), List.forall_mem_cons.mpr ⟨(⟨om_62, ok_62⟩ : jOk 62), List.forall_mem_cons.mpr ⟨(⟨om_63, ok_63⟩ : jOk 63), List.forall_mem_cons.mpr ⟨(⟨om_64, ok_64⟩ : jOk 64), List.forall_mem_cons.mpr ⟨(⟨om_65, ok_65⟩ : jOk 65), List.forall_mem_cons.mpr ⟨(⟨om_66, ok_66⟩ : jOk 66), List.forall_mem_cons.mpr ⟨(⟨om_67, ok_67⟩ : jOk 67), List.forall_mem_cons.mpr ⟨(⟨om_68, ok_68⟩ : jOk 68), List.forall_mem_cons.mpr ⟨(⟨om_69, ok_69⟩ : jOk 69), List.forall_mem_cons.mpr ⟨(⟨om_70, ok_70⟩ : jOk 70), List.forall_mem_cons.mpr ⟨(⟨om_71, ok_71⟩ : jOk 71), List.forall_mem_cons.mpr ⟨(⟨om_72, ok_72⟩ : jOk 72), List.forall_mem_cons.mpr ⟨(⟨om_73, ok_73⟩ : jOk 73), List.forall_mem_cons.mpr ⟨(⟨om_74, ok_74⟩ : jOk 74), List.forall_mem_cons.mpr ⟨(⟨om_75, ok_75⟩ : jOk 75), List.forall_mem_cons.mpr ⟨(⟨om_76, ok_76⟩ : jOk 76), List.forall_mem_cons.mpr ⟨(⟨om_77, ok_77⟩ : jOk 77), List.forall_mem_cons.mpr ⟨(⟨om_78, ok_78⟩ : jOk 78), List.forall_mem_cons.mpr ⟨(⟨om_79, ok_79⟩ : jOk 79), List.forall_mem_cons.mpr ⟨(⟨om_80, ok_80⟩ : jOk 80), List.forall_mem_cons.mpr ⟨(⟨om_81, ok_81⟩ : jOk 81), List.forall_mem_cons.mpr ⟨(⟨om_82, ok_82⟩ : jOk 82), List.forall_mem_cons.mpr ⟨(⟨om_83, ok_83⟩ : jOk 83), List.forall_mem_cons.mpr ⟨(⟨om_84, ok_84⟩ : jOk 84), List.forall_mem_cons.mpr ⟨(⟨om_85, ok_85⟩ : jOk 85), List.forall_mem_cons.mpr ⟨(⟨om_86, ok_86⟩ : jOk 86), List.forall_mem_cons.mpr ⟨(⟨om_87, ok_87⟩ : jOk 87), List.forall_mem_cons.mpr ⟨(⟨om_88, ok_88⟩ : jOk 88), List.forall_mem_cons.mpr ⟨(⟨om_89, ok_89⟩ : jOk 89), fun _ h => absurd h List.not_mem_nil⟩⟩⟩⟩⟩⟩⟩⟩⟩⟩⟩⟩⟩⟩⟩⟩⟩⟩⟩⟩⟩⟩⟩⟩⟩⟩⟩⟩⟩⟩
