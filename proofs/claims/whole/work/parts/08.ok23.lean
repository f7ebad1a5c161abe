/-! the words of the methods 321 to 323, checked by the kernel -/
theorem om_321 : okM 321 = true := by decide +kernel
set_option maxRecDepth 100000 in
theorem ok_321 : q_321.all (okE (jY 321)) = true := by decide +kernel
theorem om_322 : okM 322 = true := by decide +kernel
set_option maxRecDepth 100000 in
theorem ok_322 : q_322.all (okE (jY 322)) = true := by decide +kernel
theorem om_323 : okM 323 = true := by decide +kernel
set_option maxRecDepth 100000 in
theorem ok_323 : q_323.all (okE (jY 323)) = true := by decide +kernel
set_option maxRecDepth 100000 in
theorem okp_23 : ∀ k ∈ List.range' 321 3, jOk k := List.forall_mem_cons.mpr ⟨(⟨om_321, ok_321⟩ : jOk 321), List.forall_mem_cons.mpr ⟨(⟨om_322, ok_322⟩ : jOk 322), List.forall_mem_cons.mpr ⟨(⟨om_323, ok_323⟩ : jOk 323), fun _ h => absurd h List.not_mem_nil⟩⟩⟩
