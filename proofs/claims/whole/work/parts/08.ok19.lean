/-! the words of the methods 292 to 300, checked by the kernel -/
theorem om_292 : okM 292 = true := by decide +kernel
set_option maxRecDepth 100000 in
theorem ok_292 : q_292.all (okE (jY 292)) = true := by decide +kernel
theorem om_293 : okM 293 = true := by decide +kernel
set_option maxRecDepth 100000 in
theorem ok_293 : q_293.all (okE (jY 293)) = true := by decide +kernel
theorem om_294 : okM 294 = true := by decide +kernel
set_option maxRecDepth 100000 in
theorem ok_294 : q_294.all (okE (jY 294)) = true := by decide +kernel
theorem om_295 : okM 295 = true := by decide +kernel
set_option maxRecDepth 100000 in
theorem ok_295 : q_295.all (okE (jY 295)) = true := by decide +kernel
theorem om_296 : okM 296 = true := by decide +kernel
set_option maxRecDepth 100000 in
theorem ok_296 : q_296.all (okE (jY 296)) = true := by decide +kernel
theorem om_297 : okM 297 = true := by decide +kernel
set_option maxRecDepth 100000 in
theorem ok_297 : q_297.all (okE (jY 297)) = true := by decide +kernel
theorem om_298 : okM 298 = true := by decide +kernel
set_option maxRecDepth 100000 in
theorem ok_298 : q_298.all (okE (jY 298)) = true := by decide +kernel
theorem om_299 : okM 299 = true := by decide +kernel
set_option maxRecDepth 100000 in
theorem ok_299 : q_299.all (okE (jY 299)) = true := by decide +kernel
theorem om_300 : okM 300 = true := by decide +kernel
set_option maxRecDepth 100000 in
theorem ok_300 : q_300.all (okE (jY 300)) = true := by decide +kernel
set_option maxRecDepth 100000 in
theorem okp_19 : ∀ k ∈ List.range' 292 9, jOk k := List.forall_mem_cons.mpr ⟨(⟨om_292, ok_292⟩ : jOk 292), List.forall_mem_cons.mpr ⟨(⟨om_293, ok_293⟩ : jOk 293), List.forall_mem_cons.mpr ⟨(⟨om_294, ok_294⟩ : jOk 294), List.forall_mem_cons.mpr ⟨(⟨om_295, ok_295⟩ : jOk 295), List.forall_mem_cons.mpr ⟨(⟨om_296, ok_296⟩ : jOk 296), List.forall_mem_cons.mpr ⟨(⟨om_297, ok_297⟩ : jOk 297), List.forall_mem_cons.mpr ⟨(⟨om_298, ok_298⟩ : jOk 298), List.forall_mem_cons.mpr ⟨(⟨om_299, ok_299⟩ : jOk 299), List.forall_mem_cons.mpr ⟨(⟨om_300, ok_300⟩ : jOk 300), fun _ h => absurd h List.not_mem_nil⟩⟩⟩⟩⟩⟩⟩⟩⟩
