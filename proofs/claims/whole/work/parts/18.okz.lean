set_option maxRecDepth 100000 in
theorem j_len : jYL.length = 367 := by decide +kernel
theorem j_each (k : Nat) (hk : k < jYL.length) : jOk k := by
  rw [j_len] at hk
  by_cases h0 : k < 30
  · exact okp_0 k (List.mem_range'_1.mpr ⟨by omega, by omega⟩)
  by_cases h1 : k < 60
  · exact okp_1 k (List.mem_range'_1.mpr ⟨by omega, by omega⟩)
  by_cases h2 : k < 90
  · exact okp_2 k (List.mem_range'_1.mpr ⟨by omega, by omega⟩)
  by_cases h3 : k < 120
  · exact okp_3 k (List.mem_range'_1.mpr ⟨by omega, by omega⟩)
  by_cases h4 : k < 150
  · exact okp_4 k (List.mem_range'_1.mpr ⟨by omega, by omega⟩)
  by_cases h5 : k < 180
  · exact okp_5 k (List.mem_range'_1.mpr ⟨by omega, by omega⟩)
  by_cases h6 : k < 210
  · exact okp_6 k (List.mem_range'_1.mpr ⟨by omega, by omega⟩)
  by_cases h7 : k < 213
  · exact okp_7 k (List.mem_range'_1.mpr ⟨by omega, by omega⟩)
  by_cases h8 : k < 215
  · exact okp_8 k (List.mem_range'_1.mpr ⟨by omega, by omega⟩)
  by_cases h9 : k < 225
  · exact okp_9 k (List.mem_range'_1.mpr ⟨by omega, by omega⟩)
  by_cases h10 : k < 234
  · exact okp_10 k (List.mem_range'_1.mpr ⟨by omega, by omega⟩)
  by_cases h11 : k < 243
  · exact okp_11 k (List.mem_range'_1.mpr ⟨by omega, by omega⟩)
  by_cases h12 : k < 248
  · exact okp_12 k (List.mem_range'_1.mpr ⟨by omega, by omega⟩)
  by_cases h13 : k < 261
  · exact okp_13 k (List.mem_range'_1.mpr ⟨by omega, by omega⟩)
  by_cases h14 : k < 266
  · exact okp_14 k (List.mem_range'_1.mpr ⟨by omega, by omega⟩)
  by_cases h15 : k < 273
  · exact okp_15 k (List.mem_range'_1.mpr ⟨by omega, by omega⟩)
  by_cases h16 : k < 283
  · exact okp_16 k (List.mem_range'_1.mpr ⟨by omega, by omega⟩)
  by_cases h17 : k < 287
  · exact okp_17 k (List.mem_range'_1.mpr ⟨by omega, by omega⟩)
  by_cases h18 : k < 292
  · exact okp_18 k (List.mem_range'_1.mpr ⟨by omega, by omega⟩)
  by_cases h19 : k < 301
  · exact okp_19 k (List.mem_range'_1.mpr ⟨by omega, by omega⟩)
  by_cases h20 : k < 306
  · exact okp_20 k (List.mem_range'_1.mpr ⟨by omega, by omega⟩)
  by_cases h21 : k < 312
  · exact okp_21 k (List.mem_range'_1.mpr ⟨by omega, by omega⟩)
  by_cases h22 : k < 321
  · exact okp_22 k (List.mem_range'_1.mpr ⟨by omega, by omega⟩)
  by_cases h23 : k < 324
  · exact okp_23 k (List.mem_range'_1.mpr ⟨by omega, by omega⟩)
  by_cases h24 : k < 332
  · exact okp_24 k (List.mem_range'_1.mpr ⟨by omega, by omega⟩)
  by_cases h25 : k < 338
  · exact okp_25 k (List.mem_range'_1.mpr ⟨by omega, by omega⟩)
  by_cases h26 : k < 342
  · exact okp_26 k (List.mem_range'_1.mpr ⟨by omega, by omega⟩)
  by_cases h27 : k < 348
  · exact okp_27 k (List.mem_range'_1.mpr ⟨by omega, by omega⟩)
  by_cases h28 : k < 354
  · exact okp_28 k (List.mem_range'_1.mpr ⟨by omega, by omega⟩)
  by_cases h29 : k < 360
  · exact okp_29 k (List.mem_range'_1.mpr ⟨by omega, by omega⟩)
  by_cases h30 : k < 367
  · exact okp_30 k (List.mem_range'_1.mpr ⟨by omega, by omega⟩)
  omega
theorem jAll_holds : jAll := ⟨fun k hk => (j_each k hk).1, fun k hk => (j_each k hk).2⟩
