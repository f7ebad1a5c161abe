/-! THE CLASSES OF THE WORLDS: their words, types and names -/
def tcOk (tc : Nat) (ty : FieldType) : Bool := match tc with
  | 0 => decide (ty = .int)
  | 3 => decide (ty = .boolean)
  | 1 => decide (ty = .long)
  | 2 => refKind ty
  | _ => false
theorem j_good_ps (ws : List Jvm.Cond) (ps : List Nat) (hp : ws = ps.filterMap (fun i => lw_tbl[i]?)) (h : ws.all goodWord = true) : ∀ w ∈ ws, w ∈ jgood := by
  intro w hw
  have h1 := List.all_eq_true.mp h w hw
  rw [hp] at hw
  obtain ⟨i, -, hi⟩ := List.mem_filterMap.mp hw
  exact List.mem_filter.mpr ⟨List.mem_of_getElem? hi, h1⟩
set_option maxRecDepth 100000 in
theorem cw_0 : ∀ w ∈ u_ws RX0 TX0 17, w ∈ jgood := j_good_ps _ [388, 390, 392, 394, 396, 398, 400, 402, 404, 406, 408, 410, 412, 414, 416, 418, 420] (by decide +kernel) (by decide +kernel)
theorem ci_0 : Jvm.Cond.instantiable RX0 17 ∈ jgood := j_w_good (p := 308) (by decide +kernel) (by decide +kernel)
theorem cn_0 : Jvm.Cond.initialized RX0 ∈ jgood := j_w_good (p := 208) (by decide +kernel) (by decide +kernel)
theorem ct_0 : ∀ k, k < 17 → tcOk (jty 0 k) (tyX0 k) = true := by decide +kernel
set_option maxRecDepth 100000 in
theorem cw_1 : ∀ w ∈ u_ws RX1 TX1 15, w ∈ jgood := j_good_ps _ [529, 531, 533, 535, 537, 539, 541, 543, 545, 547, 549, 551, 553, 555, 557] (by decide +kernel) (by decide +kernel)
theorem ci_1 : Jvm.Cond.instantiable RX1 15 ∈ jgood := j_w_good (p := 502) (by decide +kernel) (by decide +kernel)
theorem cn_1 : Jvm.Cond.initialized RX1 ∈ jgood := j_w_good (p := 215) (by decide +kernel) (by decide +kernel)
theorem ct_1 : ∀ k, k < 15 → tcOk (jty 1 k) (tyX1 k) = true := by decide +kernel
set_option maxRecDepth 100000 in
theorem cw_2 : ∀ w ∈ u_ws RX2 TX2 2, w ∈ jgood := j_good_ps _ [302, 304] (by decide +kernel) (by decide +kernel)
theorem ci_2 : Jvm.Cond.instantiable RX2 2 ∈ jgood := j_w_good (p := 293) (by decide +kernel) (by decide +kernel)
theorem cn_2 : Jvm.Cond.initialized RX2 ∈ jgood := j_w_good (p := 207) (by decide +kernel) (by decide +kernel)
theorem ct_2 : ∀ k, k < 2 → tcOk (jty 2 k) (tyX2 k) = true := by decide +kernel
set_option maxRecDepth 100000 in
theorem cw_3 : ∀ w ∈ u_ws RX3 TX3 1, w ∈ jgood := j_good_ps _ [260] (by decide +kernel) (by decide +kernel)
theorem ci_3 : Jvm.Cond.instantiable RX3 1 ∈ jgood := j_w_good (p := 234) (by decide +kernel) (by decide +kernel)
theorem cn_3 : Jvm.Cond.initialized RX3 ∈ jgood := j_w_good (p := 203) (by decide +kernel) (by decide +kernel)
theorem ct_3 : ∀ k, k < 1 → tcOk (jty 3 k) (tyX3 k) = true := by decide +kernel
set_option maxRecDepth 100000 in
theorem cw_4 : ∀ w ∈ u_ws RX4 TX4 6, w ∈ jgood := j_good_ps _ [278, 280, 282, 284, 286, 288] (by decide +kernel) (by decide +kernel)
theorem ci_4 : Jvm.Cond.instantiable RX4 6 ∈ jgood := j_w_good (p := 266) (by decide +kernel) (by decide +kernel)
theorem cn_4 : Jvm.Cond.initialized RX4 ∈ jgood := j_w_good (p := 206) (by decide +kernel) (by decide +kernel)
theorem ct_4 : ∀ k, k < 6 → tcOk (jty 4 k) (tyX4 k) = true := by decide +kernel
set_option maxRecDepth 100000 in
theorem cw_5 : ∀ w ∈ u_ws RX5 TX5 13, w ∈ jgood := j_good_ps _ [721, 723, 725, 727, 729, 731, 733, 735, 737, 739, 741, 743, 745] (by decide +kernel) (by decide +kernel)
theorem ci_5 : Jvm.Cond.instantiable RX5 13 ∈ jgood := j_w_good (p := 695) (by decide +kernel) (by decide +kernel)
theorem cn_5 : Jvm.Cond.initialized RX5 ∈ jgood := j_w_good (p := 217) (by decide +kernel) (by decide +kernel)
theorem ct_5 : ∀ k, k < 13 → tcOk (jty 5 k) (tyX5 k) = true := by decide +kernel
set_option maxRecDepth 100000 in
theorem cw_6 : ∀ w ∈ u_ws RX6 TX6 14, w ∈ jgood := j_good_ps _ [466, 468, 470, 472, 474, 476, 478, 480, 482, 484, 486, 488, 490, 492] (by decide +kernel) (by decide +kernel)
theorem ci_6 : Jvm.Cond.instantiable RX6 14 ∈ jgood := j_w_good (p := 425) (by decide +kernel) (by decide +kernel)
theorem cn_6 : Jvm.Cond.initialized RX6 ∈ jgood := j_w_good (p := 213) (by decide +kernel) (by decide +kernel)
theorem ct_6 : ∀ k, k < 14 → tcOk (jty 6 k) (tyX6 k) = true := by decide +kernel
set_option maxRecDepth 100000 in
theorem cw_7 : ∀ w ∈ u_ws RX7 TX7 19, w ∈ jgood := j_good_ps _ [582, 584, 586, 588, 590, 592, 594, 596, 598, 600, 602, 604, 606, 608, 610, 612, 614, 616, 618] (by decide +kernel) (by decide +kernel)
theorem ci_7 : Jvm.Cond.instantiable RX7 19 ∈ jgood := j_w_good (p := 496) (by decide +kernel) (by decide +kernel)
theorem cn_7 : Jvm.Cond.initialized RX7 ∈ jgood := j_w_good (p := 214) (by decide +kernel) (by decide +kernel)
theorem ct_7 : ∀ k, k < 19 → tcOk (jty 7 k) (tyX7 k) = true := by decide +kernel
set_option maxRecDepth 100000 in
theorem cw_8 : ∀ w ∈ u_ws RX8 TX8 20, w ∈ jgood := j_good_ps _ [653, 655, 657, 659, 661, 663, 665, 667, 669, 671, 673, 675, 677, 679, 681, 683, 685, 687, 689, 691] (by decide +kernel) (by decide +kernel)
theorem ci_8 : Jvm.Cond.instantiable RX8 20 ∈ jgood := j_w_good (p := 622) (by decide +kernel) (by decide +kernel)
theorem cn_8 : Jvm.Cond.initialized RX8 ∈ jgood := j_w_good (p := 216) (by decide +kernel) (by decide +kernel)
theorem ct_8 : ∀ k, k < 20 → tcOk (jty 8 k) (tyX8 k) = true := by decide +kernel
set_option maxRecDepth 100000 in
theorem cw_9 : ∀ w ∈ u_ws RX9 TX9 13, w ∈ jgood := j_good_ps _ [778, 780, 782, 784, 786, 788, 790, 792, 794, 796, 798, 800, 802] (by decide +kernel) (by decide +kernel)
theorem ci_9 : Jvm.Cond.instantiable RX9 13 ∈ jgood := j_w_good (p := 749) (by decide +kernel) (by decide +kernel)
theorem cn_9 : Jvm.Cond.initialized RX9 ∈ jgood := j_w_good (p := 218) (by decide +kernel) (by decide +kernel)
theorem ct_9 : ∀ k, k < 13 → tcOk (jty 9 k) (tyX9 k) = true := by decide +kernel
set_option maxRecDepth 100000 in
theorem cw_10 : ∀ w ∈ u_ws RX10 TX10 14, w ∈ jgood := j_good_ps _ [827, 829, 831, 833, 835, 837, 839, 841, 843, 845, 847, 849, 851, 853] (by decide +kernel) (by decide +kernel)
theorem ci_10 : Jvm.Cond.instantiable RX10 14 ∈ jgood := j_w_good (p := 806) (by decide +kernel) (by decide +kernel)
theorem cn_10 : Jvm.Cond.initialized RX10 ∈ jgood := j_w_good (p := 219) (by decide +kernel) (by decide +kernel)
theorem ct_10 : ∀ k, k < 14 → tcOk (jty 10 k) (tyX10 k) = true := by decide +kernel
set_option maxRecDepth 100000 in
theorem cw_11 : ∀ w ∈ u_ws RX11 TX11 20, w ∈ jgood := j_good_ps _ [876, 878, 880, 882, 884, 886, 888, 890, 892, 894, 896, 898, 900, 902, 904, 906, 908, 910, 912, 914] (by decide +kernel) (by decide +kernel)
theorem ci_11 : Jvm.Cond.instantiable RX11 20 ∈ jgood := j_w_good (p := 226) (by decide +kernel) (by decide +kernel)
theorem cn_11 : Jvm.Cond.initialized RX11 ∈ jgood := j_w_good (p := 202) (by decide +kernel) (by decide +kernel)
theorem ct_11 : ∀ k, k < 20 → tcOk (jty 11 k) (tyX11 k) = true := by decide +kernel
set_option maxRecDepth 100000 in
theorem cw_12 : ∀ w ∈ u_ws RX12 TX12 128, w ∈ jgood := j_good_ps _ [2127, 2129, 2131, 2133, 2135, 2137, 2139, 2141, 2143, 2145, 2147, 2149, 2151, 2153, 2155, 2157, 2159, 2161, 2163, 2165, 2167, 2169, 2171, 2173, 2175, 2177, 2179, 2181, 2183, 2185, 2187, 2189, 2191, 2193, 2195, 2197, 2199, 2201, 2203, 2205, 2207, 2209, 2211, 2213, 2215, 2217, 2219, 2221, 2223, 2225, 2227, 2229, 2231, 2233, 2235, 2237, 2239, 2241, 2243, 2245, 2247, 2249, 2251, 2253, 2255, 2257, 2259, 2261, 2263, 2265, 2267, 2269, 2271, 2273, 2275, 2277, 2279, 2281, 2283, 2285, 2287, 2289, 2291, 2293, 2295, 2297, 2299, 2301, 2303, 2305, 2307, 2309, 2311, 2313, 2315, 2317, 2319, 2321, 2323, 2325, 2327, 2329, 2331, 2333, 2335, 2337, 2339, 2341, 2343, 2345, 2347, 2349, 2351, 2353, 2355, 2357, 2359, 2361, 2363, 2365, 2367, 2369, 2371, 2373, 2375, 2377, 2379, 2381] (by decide +kernel) (by decide +kernel)
theorem ci_12 : Jvm.Cond.instantiable RX12 128 ∈ jgood := j_w_good (p := 1859) (by decide +kernel) (by decide +kernel)
theorem cn_12 : Jvm.Cond.initialized RX12 ∈ jgood := j_w_good (p := 220) (by decide +kernel) (by decide +kernel)
theorem ct_12 : ∀ k, k < 128 → tcOk (jty 12 k) (tyX12 k) = true := by decide +kernel
/-- what is known of a class of the worlds -/
def jCl (ci : Nat) (C : String) (T : u_T) (N : Nat) : Prop := (∀ w ∈ u_ws C T N, w ∈ jgood) ∧ Jvm.Cond.instantiable C N ∈ jgood ∧ Jvm.Cond.initialized C ∈ jgood ∧ (∀ a, a < N → ∀ b, b < N → a ≠ b → (T a).2.1 ≠ (T b).2.1) ∧ ci < 100 ∧ ∃ ty : Nat → FieldType, (∀ k, k < N → parseFieldDescriptor (T k).2.2.1 = some (ty k)) ∧ ∀ k, k < N → tcOk (jty ci k) (ty k) = true
theorem jCl_of : ∀ (ci : Nat) (C : String) (T : u_T) (N : Nat), vwCl[ci]? = some (C, T, N) → jCl ci C T N := by
  intro ci C T N h
  match ci, h with
  | 0, h => cases h; exact ⟨cw_0, ci_0, cn_0, nmX0, by decide, tyX0, tyX0_ok, ct_0⟩
  | 1, h => cases h; exact ⟨cw_1, ci_1, cn_1, nmX1, by decide, tyX1, tyX1_ok, ct_1⟩
  | 2, h => cases h; exact ⟨cw_2, ci_2, cn_2, nmX2, by decide, tyX2, tyX2_ok, ct_2⟩
  | 3, h => cases h; exact ⟨cw_3, ci_3, cn_3, nmX3, by decide, tyX3, tyX3_ok, ct_3⟩
  | 4, h => cases h; exact ⟨cw_4, ci_4, cn_4, nmX4, by decide, tyX4, tyX4_ok, ct_4⟩
  | 5, h => cases h; exact ⟨cw_5, ci_5, cn_5, nmX5, by decide, tyX5, tyX5_ok, ct_5⟩
  | 6, h => cases h; exact ⟨cw_6, ci_6, cn_6, nmX6, by decide, tyX6, tyX6_ok, ct_6⟩
  | 7, h => cases h; exact ⟨cw_7, ci_7, cn_7, nmX7, by decide, tyX7, tyX7_ok, ct_7⟩
  | 8, h => cases h; exact ⟨cw_8, ci_8, cn_8, nmX8, by decide, tyX8, tyX8_ok, ct_8⟩
  | 9, h => cases h; exact ⟨cw_9, ci_9, cn_9, nmX9, by decide, tyX9, tyX9_ok, ct_9⟩
  | 10, h => cases h; exact ⟨cw_10, ci_10, cn_10, nmX10, by decide, tyX10, tyX10_ok, ct_10⟩
  | 11, h => cases h; exact ⟨cw_11, ci_11, cn_11, nmX11, by decide, tyX11, tyX11_ok, ct_11⟩
  | 12, h => cases h; exact ⟨cw_12, ci_12, cn_12, nmX12, by decide, tyX12, tyX12_ok, ct_12⟩
  | n + 13, h => simp [vwCl] at h
theorem wm_max_s : Jvm.Cond.static Lib.Math.max.name ∈ jgood := j_w_good (p := 257) (by decide +kernel) (by decide +kernel)
theorem wm_max_c : Jvm.Cond.code Lib.Math.max.name Lib.Math.max.code 2 (some .int) ∈ jgood := j_w_good (p := 258) (by decide +kernel) (by decide +kernel)
theorem wm_min_s : Jvm.Cond.static Lib.Math.min.name ∈ jgood := j_w_good (p := 1045) (by decide +kernel) (by decide +kernel)
theorem wm_min_c : Jvm.Cond.code Lib.Math.min.name Lib.Math.min.code 2 (some .int) ∈ jgood := j_w_good (p := 1046) (by decide +kernel) (by decide +kernel)
theorem wm_abs_s : Jvm.Cond.static Lib.MathLoose.abs_long.x ∈ jgood := j_w_good (p := 1530) (by decide +kernel) (by decide +kernel)
theorem wm_abs_c : Jvm.Cond.code Lib.MathLoose.abs_long.x Lib.MathLoose.abs_long.code 2 (some .long) ∈ jgood := j_w_good (p := 1531) (by decide +kernel) (by decide +kernel)
theorem wm_i : Jvm.Cond.initialized "java/lang/Math" ∈ jgood := j_w_good (p := 205) (by decide +kernel) (by decide +kernel)
theorem wc_n : Jvm.Cond.native arraycopyName ∈ jgood := j_w_good (p := 1003) (by decide +kernel) (by decide +kernel)
theorem wc_s : Jvm.Cond.static arraycopyName ∈ jgood := j_w_good (p := 1002) (by decide +kernel) (by decide +kernel)
theorem wc_i : Jvm.Cond.initialized "java/lang/System" ∈ jgood := j_w_good (p := 222) (by decide +kernel) (by decide +kernel)
theorem wo_m : Jvm.Cond.instanceMethod Lib.objectInit ∈ jgood := j_w_good (p := 231) (by decide +kernel) (by decide +kernel)
theorem wo_c : Jvm.Cond.code Lib.objectInit ⟨#[0xb1]⟩ 1 none ∈ jgood := j_w_good (p := 232) (by decide +kernel) (by decide +kernel)
theorem wa_int : Jvm.Cond.arrayClass .int ∈ jgood := j_w_good (p := 263) (by decide +kernel) (by decide +kernel)
theorem wa_byte : Jvm.Cond.arrayClass .byte ∈ jgood := j_w_good (p := 291) (by decide +kernel) (by decide +kernel)
theorem wa_long : Jvm.Cond.arrayClass .long ∈ jgood := j_w_good (p := 423) (by decide +kernel) (by decide +kernel)
theorem wa_boolean : Jvm.Cond.arrayClass .boolean ∈ jgood := j_w_good (p := 2384) (by decide +kernel) (by decide +kernel)
