set_option maxRecDepth 100000 in
theorem j_len : jYL.length = 366 := by decide +kernel
theorem j_each (k : Nat) (hk : k < jYL.length) : jOk k := by
  rw [j_len] at hk
  by_cases h0 : k < 30
  · exact okp_0 k (List.mem_range'_1.mpr ⟨by omega, by omega⟩)
  by_cases h1 : k < 60
  · exact okp_1 k (List.mem_range'_1.mpr ⟨by omega, by omega⟩)
  by_cases h2 : k < 90
  · exact okp_2 k (List.mem_range'_1.mpr ⟨by omega, by omega⟩)
  by_cases h3 : k < 120
  · exact okp_3 k (List.mem_range'_1.mpr ⟨by omega, by omega⟩)
  by_cases h4 : k < 150
  · exact okp_4 k (List.mem_range'_1.mpr ⟨by omega, by omega⟩)
  by_cases h5 : k < 180
  · exact okp_5 k (List.mem_range'_1.mpr ⟨by omega, by omega⟩)
  by_cases h6 : k < 210
  · exact okp_6 k (List.mem_range'_1.mpr ⟨by omega, by omega⟩)
  by_cases h7 : k < 240
  · exact okp_7 k (List.mem_range'_1.mpr ⟨by omega, by omega⟩)
  by_cases h8 : k < 270
  · exact okp_8 k (List.mem_range'_1.mpr ⟨by omega, by omega⟩)
  by_cases h9 : k < 300
  · exact okp_9 k (List.mem_range'_1.mpr ⟨by omega, by omega⟩)
  by_cases h10 : k < 330
  · exact okp_10 k (List.mem_range'_1.mpr ⟨by omega, by omega⟩)
  by_cases h11 : k < 360
  · exact okp_11 k (List.mem_range'_1.mpr ⟨by omega, by omega⟩)
  by_cases h12 : k < 366
  · exact okp_12 k (List.mem_range'_1.mpr ⟨by omega, by omega⟩)
  omega
theorem jAll_holds : jAll := ⟨fun k hk => (j_each k hk).1, fun k hk => (j_each k hk).2⟩
