/-! the words of the methods 30 to 59, checked by the kernel -/
theorem om_30 : okM 30 = true := by decide +kernel
set_option maxRecDepth 100000 in
theorem ok_30 : q_30.all (okE (jY 30)) = true := by decide +kernel
theorem om_31 : okM 31 = true := by decide +kernel
set_option maxRecDepth 100000 in
theorem ok_31 : q_31.all (okE (jY 31)) = true := by decide +kernel
theorem om_32 : okM 32 = true := by decide +kernel
set_option maxRecDepth 100000 in
theorem ok_32 : q_32.all (okE (jY 32)) = true := by decide +kernel
theorem om_33 : okM 33 = true := by decide +kernel
set_option maxRecDepth 100000 in
theorem ok_33 : q_33.all (okE (jY 33)) = true := by decide +kernel
theorem om_34 : okM 34 = true := by decide +kernel
set_option maxRecDepth 100000 in
theorem ok_34 : q_34.all (okE (jY 34)) = true := by decide +kernel
theorem om_35 : okM 35 = true := by decide +kernel
set_option maxRecDepth 100000 in
theorem ok_35 : q_35.all (okE (jY 35)) = true := by decide +kernel
theorem om_36 : okM 36 = true := by decide +kernel
set_option maxRecDepth 100000 in
theorem ok_36 : q_36.all (okE (jY 36)) = true := by decide +kernel
theorem om_37 : okM 37 = true := by decide +kernel
set_option maxRecDepth 100000 in
theorem ok_37 : q_37.all (okE (jY 37)) = true := by decide +kernel
theorem om_38 : okM 38 = true := by decide +kernel
set_option maxRecDepth 100000 in
theorem ok_38 : q_38.all (okE (jY 38)) = true := by decide +kernel
theorem om_39 : okM 39 = true := by decide +kernel
set_option maxRecDepth 100000 in
theorem ok_39 : q_39.all (okE (jY 39)) = true := by decide +kernel
theorem om_40 : okM 40 = true := by decide +kernel
set_option maxRecDepth 100000 in
theorem ok_40 : q_40.all (okE (jY 40)) = true := by decide +kernel
theorem om_41 : okM 41 = true := by decide +kernel
set_option maxRecDepth 100000 in
theorem ok_41 : q_41.all (okE (jY 41)) = true := by decide +kernel
theorem om_42 : okM 42 = true := by decide +kernel
set_option maxRecDepth 100000 in
theorem ok_42 : q_42.all (okE (jY 42)) = true := by decide +kernel
theorem om_43 : okM 43 = true := by decide +kernel
set_option maxRecDepth 100000 in
theorem ok_43 : q_43.all (okE (jY 43)) = true := by decide +kernel
theorem om_44 : okM 44 = true := by decide +kernel
set_option maxRecDepth 100000 in
theorem ok_44 : q_44.all (okE (jY 44)) = true := by decide +kernel
theorem om_45 : okM 45 = true := by decide +kernel
set_option maxRecDepth 100000 in
theorem ok_45 : q_45.all (okE (jY 45)) = true := by decide +kernel
theorem om_46 : okM 46 = true := by decide +kernel
set_option maxRecDepth 100000 in
theorem ok_46 : q_46.all (okE (jY 46)) = true := by decide +kernel
theorem om_47 : okM 47 = true := by decide +kernel
set_option maxRecDepth 100000 in
theorem ok_47 : q_47.all (okE (jY 47)) = true := by decide +kernel
theorem om_48 : okM 48 = true := by decide +kernel
set_option maxRecDepth 100000 in
theorem ok_48 : q_48.all (okE (jY 48)) = true := by decide +kernel
theorem om_49 : okM 49 = true := by decide +kernel
set_option maxRecDepth 100000 in
theorem ok_49 : q_49.all (okE (jY 49)) = true := by decide +kernel
theorem om_50 : okM 50 = true := by decide +kernel
set_option maxRecDepth 100000 in
theorem ok_50 : q_50.all (okE (jY 50)) = true := by decide +kernel
theorem om_51 : okM 51 = true := by decide +kernel
set_option maxRecDepth 100000 in
theorem ok_51 : q_51.all (okE (jY 51)) = true := by decide +kernel
theorem om_52 : okM 52 = true := by decide +kernel
set_option maxRecDepth 100000 in
theorem ok_52 : q_52.all (okE (jY 52)) = true := by decide +kernel
theorem om_53 : okM 53 = true := by decide +kernel
set_option maxRecDepth 100000 in
theorem ok_53 : q_53.all (okE (jY 53)) = true := by decide +kernel
theorem om_54 : okM 54 = true := by decide +kernel
set_option maxRecDepth 100000 in
theorem ok_54 : q_54.all (okE (jY 54)) = true := by decide +kernel
theorem om_55 : okM 55 = true := by decide +kernel
set_option maxRecDepth 100000 in
theorem ok_55 : q_55.all (okE (jY 55)) = true := by decide +kernel
theorem om_56 : okM 56 = true := by decide +kernel
set_option maxRecDepth 100000 in
theorem ok_56 : q_56.all (okE (jY 56)) = true := by decide +kernel
theorem om_57 : okM 57 = true := by decide +kernel
set_option maxRecDepth 100000 in
theorem ok_57 : q_57.all (okE (jY 57)) = true := by decide +kernel
theorem om_58 : okM 58 = true := by decide +kernel
set_option maxRecDepth 100000 in
theorem ok_58 : q_58.all (okE (jY 58)) = true := by decide +kernel
theorem om_59 : okM 59 = true := by decide +kernel
set_option maxRecDepth 100000 in
theorem ok_59 : q_59.all (okE (jY 59)) = true := by decide +kernel
set_option maxRecDepth 100000 in
theorem okp_1 : ∀ k ∈ List.range' 30 30, jOk k := List.forall_mem_cons.mpr ⟨(⟨om_30, ok_30⟩ : jOk 30), List.forall_mem_cons.mpr ⟨(⟨om_31, ok_31⟩ : jOk 31), List.forall_mem_cons.mpr ⟨(⟨om_32, ok_32⟩ : jOk 32), List.forall_mem_cons.mpr ⟨(⟨om_33, ok_33⟩ : jOk 33), List.forall_mem_cons.mpr ⟨(⟨om_34, ok_34⟩ : jOk 34), List.forall_mem_cons.mpr ⟨(⟨om_35, ok_35⟩ : jOk 35), List.forall_mem_cons.mpr ⟨(⟨om_36, ok_36⟩ : jOk 36), List.forall_mem_cons.mpr ⟨(⟨om_37, ok_37⟩ : jOk 37), List.forall_mem_cons.mpr ⟨(⟨om_38, ok_38⟩ : jOk 38), List.forall_mem_cons.mpr ⟨(⟨om_39, ok_39⟩ : jOk 39), List.forall_mem_cons.mpr ⟨(⟨om_40, ok_40⟩ : jOk 40), List.forall_mem_cons.mpr ⟨(⟨om_41, ok_41⟩ : jOk 41), List.forall_mem_cons.mpr ⟨(⟨om_42, ok_42⟩ : jOk 42), List.forall_mem_cons.mpr ⟨(⟨om_43, ok_43⟩ : jOk 43), List.forall_mem_cons.mpr ⟨(⟨om_44, ok_44⟩ : jOk 44), List.forall_mem_cons.mpr ⟨(⟨om_45, ok_45⟩ : jOk 45), List.forall_mem_cons.mpr ⟨(⟨om_46, ok_46⟩ : jOk 46), List.forall_mem_cons.mpr ⟨(⟨om_47, ok_47⟩ : jOk 47), List.forall_mem_cons.mpr ⟨(⟨om_48, ok_48⟩ : jOk 48), List.forall_mem_cons.mpr ⟨(⟨om_49, ok_49⟩ : jOk 49), List.forall_mem_cons.mpr ⟨(⟨om_50, ok_50⟩ : jOk 50), List.forall_mem_cons.mpr ⟨(⟨om_51, ok_51⟩ : jOk 51), List.forall_mem_cons.mpr ⟨(⟨om_52, ok_52⟩ : jOk 52), List.forall_mem_cons.mpr ⟨(⟨om_53, ok_53⟩ : jOk 53), List.forall_mem_cons.mpr ⟨(⟨om_54, ok_54⟩ : jOk 54), List.forall_mem_cons.mpr ⟨(⟨om_55, ok_55⟩ : jOk 55), List.forall_mem_cons.mpr ⟨(⟨om_56, ok_56⟩ : jOk 56), List.forall_mem_cons.mpr ⟨(⟨om_57, ok_57⟩ : jOk 57), List.forall_mem_cons.mpr ⟨(⟨om_58, ok_58⟩ : jOk 58), List.forall_mem_cons.mpr ⟨(⟨om_59, ok_59⟩ : jOk 59), fun _ h => absurd h List.not_mem_nil⟩⟩⟩⟩⟩⟩⟩⟩⟩⟩⟩⟩⟩⟩⟩⟩⟩⟩⟩⟩⟩⟩⟩⟩⟩⟩⟩⟩⟩⟩
