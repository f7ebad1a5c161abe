/-! the words of the methods 0 to 29, checked by the kernel -/
def jOk (k : Nat) : Prop := okM k = true ∧ (jMM k).1.all (okE (jY k)) = true
theorem om_0 : okM 0 = true := by decide +kernel
set_option maxRecDepth 100000 in
theorem ok_0 : q_0.all (okE (jY 0)) = true := by decide +kernel
theorem om_1 : okM 1 = true := by decide +kernel
set_option maxRecDepth 100000 in
theorem ok_1 : q_1.all (okE (jY 1)) = true := by decide +kernel
theorem om_2 : okM 2 = true := by decide +kernel
set_option maxRecDepth 100000 in
theorem ok_2 : q_2.all (okE (jY 2)) = true := by decide +kernel
theorem om_3 : okM 3 = true := by decide +kernel
set_option maxRecDepth 100000 in
theorem ok_3 : q_3.all (okE (jY 3)) = true := by decide +kernel
theorem om_4 : okM 4 = true := by decide +kernel
set_option maxRecDepth 100000 in
theorem ok_4 : q_4.all (okE (jY 4)) = true := by decide +kernel
theorem om_5 : okM 5 = true := by decide +kernel
set_option maxRecDepth 100000 in
theorem ok_5 : q_5.all (okE (jY 5)) = true := by decide +kernel
theorem om_6 : okM 6 = true := by decide +kernel
set_option maxRecDepth 100000 in
theorem ok_6 : q_6.all (okE (jY 6)) = true := by decide +kernel
theorem om_7 : okM 7 = true := by decide +kernel
set_option maxRecDepth 100000 in
theorem ok_7 : q_7.all (okE (jY 7)) = true := by decide +kernel
theorem om_8 : okM 8 = true := by decide +kernel
set_option maxRecDepth 100000 in
theorem ok_8 : q_8.all (okE (jY 8)) = true := by decide +kernel
theorem om_9 : okM 9 = true := by decide +kernel
set_option maxRecDepth 100000 in
theorem ok_9 : q_9.all (okE (jY 9)) = true := by decide +kernel
theorem om_10 : okM 10 = true := by decide +kernel
set_option maxRecDepth 100000 in
theorem ok_10 : q_10.all (okE (jY 10)) = true := by decide +kernel
theorem om_11 : okM 11 = true := by decide +kernel
set_option maxRecDepth 100000 in
theorem ok_11 : q_11.all (okE (jY 11)) = true := by decide +kernel
theorem om_12 : okM 12 = true := by decide +kernel
set_option maxRecDepth 100000 in
theorem ok_12 : q_12.all (okE (jY 12)) = true := by decide +kernel
theorem om_13 : okM 13 = true := by decide +kernel
set_option maxRecDepth 100000 in
theorem ok_13 : q_13.all (okE (jY 13)) = true := by decide +kernel
theorem om_14 : okM 14 = true := by decide +kernel
set_option maxRecDepth 100000 in
theorem ok_14 : q_14.all (okE (jY 14)) = true := by decide +kernel
theorem om_15 : okM 15 = true := by decide +kernel
set_option maxRecDepth 100000 in
theorem ok_15 : q_15.all (okE (jY 15)) = true := by decide +kernel
theorem om_16 : okM 16 = true := by decide +kernel
set_option maxRecDepth 100000 in
theorem ok_16 : q_16.all (okE (jY 16)) = true := by decide +kernel
theorem om_17 : okM 17 = true := by decide +kernel
set_option maxRecDepth 100000 in
theorem ok_17 : q_17.all (okE (jY 17)) = true := by decide +kernel
theorem om_18 : okM 18 = true := by decide +kernel
set_option maxRecDepth 100000 in
theorem ok_18 : q_18.all (okE (jY 18)) = true := by decide +kernel
theorem om_19 : okM 19 = true := by decide +kernel
set_option maxRecDepth 100000 in
theorem ok_19 : q_19.all (okE (jY 19)) = true := by decide +kernel
theorem om_20 : okM 20 = true := by decide +kernel
set_option maxRecDepth 100000 in
theorem ok_20 : q_20.all (okE (jY 20)) = true := by decide +kernel
theorem om_21 : okM 21 = true := by decide +kernel
set_option maxRecDepth 100000 in
theorem ok_21 : q_21.all (okE (jY 21)) = true := by decide +kernel
theorem om_22 : okM 22 = true := by decide +kernel
set_option maxRecDepth 100000 in
theorem ok_22 : q_22.all (okE (jY 22)) = true := by decide +kernel
theorem om_23 : okM 23 = true := by decide +kernel
set_option maxRecDepth 100000 in
theorem ok_23 : q_23.all (okE (jY 23)) = true := by decide +kernel
theorem om_24 : okM 24 = true := by decide +kernel
set_option maxRecDepth 100000 in
theorem ok_24 : q_24.all (okE (jY 24)) = true := by decide +kernel
theorem om_25 : okM 25 = true := by decide +kernel
set_option maxRecDepth 100000 in
theorem ok_25 : q_25.all (okE (jY 25)) = true := by decide +kernel
theorem om_26 : okM 26 = true := by decide +kernel
set_option maxRecDepth 100000 in
theorem ok_26 : q_26.all (okE (jY 26)) = true := by decide +kernel
theorem om_27 : okM 27 = true := by decide +kernel
set_option maxRecDepth 100000 in
theorem ok_27 : q_27.all (okE (jY 27)) = true := by decide +kernel
theorem om_28 : okM 28 = true := by decide +kernel
set_option maxRecDepth 100000 in
theorem ok_28 : q_28.all (okE (jY 28)) = true := by decide +kernel
theorem om_29 : okM 29 = true := by decide +kernel
set_option maxRecDepth 100000 in
theorem ok_29 : q_29.all (okE (jY 29)) = true := by decide +kernel
set_option maxRecDepth 100000 in
theorem okp_0 : ∀ k ∈ List.range' 0 30, jOk k := List.forall_mem_cons.mpr ⟨(⟨om_0, ok_0⟩ : jOk 0), List.forall_mem_cons.mpr ⟨(⟨om_1, ok_1⟩ : jOk 1), List.forall_mem_cons.mpr ⟨(⟨om_2, ok_2⟩ : jOk 2), List.forall_mem_cons.mpr ⟨(⟨om_3, ok_3⟩ : jOk 3), List.forall_mem_cons.mpr ⟨(⟨om_4, ok_4⟩ : jOk 4), List.forall_mem_cons.mpr ⟨(⟨om_5, ok_5⟩ : jOk 5), List.forall_mem_cons.mpr ⟨(⟨om_6, ok_6⟩ : jOk 6), List.forall_mem_cons.mpr ⟨(⟨om_7, ok_7⟩ : jOk 7), List.forall_mem_cons.mpr ⟨(⟨om_8, ok_8⟩ : jOk 8), List.forall_mem_cons.mpr ⟨(⟨om_9, ok_9⟩ : jOk 9), List.forall_mem_cons.mpr ⟨(⟨om_10, ok_10⟩ : jOk 10), List.forall_mem_cons.mpr ⟨(⟨om_11, ok_11⟩ : jOk 11), List.forall_mem_cons.mpr ⟨(⟨om_12, ok_12⟩ : jOk 12), List.forall_mem_cons.mpr ⟨(⟨om_13, ok_13⟩ : jOk 13), List.forall_mem_cons.mpr ⟨(⟨om_14, ok_14⟩ : jOk 14), List.forall_mem_cons.mpr ⟨(⟨om_15, ok_15⟩ : jOk 15), List.forall_mem_cons.mpr ⟨(⟨om_16, ok_16⟩ : jOk 16), List.forall_mem_cons.mpr ⟨(⟨om_17, ok_17⟩ : jOk 17), List.forall_mem_cons.mpr ⟨(⟨om_18, ok_18⟩ : jOk 18), List.forall_mem_cons.mpr ⟨(⟨om_19, ok_19⟩ : jOk 19), List.forall_mem_cons.mpr ⟨(⟨om_20, ok_20⟩ : jOk 20), List.forall_mem_cons.mpr ⟨(⟨om_21, ok_21⟩ : jOk 21), List.forall_mem_cons.mpr ⟨(⟨om_22, ok_22⟩ : jOk 22), List.forall_mem_cons.mpr ⟨(⟨om_23, ok_23⟩ : jOk 23), List.forall_mem_cons.mpr ⟨(⟨om_24, ok_24⟩ : jOk 24), List.forall_mem_cons.mpr ⟨(⟨om_25, ok_25⟩ : jOk 25), List.forall_mem_cons.mpr ⟨(⟨om_26, ok_26⟩ : jOk 26), List.forall_mem_cons.mpr ⟨(⟨om_27, ok_27⟩ : jOk 27), List.forall_mem_cons.mpr ⟨(⟨om_28, ok_28⟩ : jOk 28), List.forall_mem_cons.mpr ⟨(⟨om_29, ok_29⟩ : jOk 29), fun _ h => absurd h List.not_mem_nil⟩⟩⟩⟩⟩⟩⟩⟩⟩⟩⟩⟩⟩⟩⟩⟩⟩⟩⟩⟩⟩⟩⟩⟩⟩⟩⟩⟩⟩⟩
