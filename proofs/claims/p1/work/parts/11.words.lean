/-! THE CLASSES OF THE WORLDS: their words, types and names -/
def tcOk (tc : Nat) (ty : FieldType) : Bool := match tc with
  | 0 => decide (ty = .int)
  | 3 => decide (ty = .boolean)
  | 1 => decide (ty = .long)
  | 2 => refKind ty
  | _ => false
theorem j_good_ps (ws : List Jvm.Cond) (ps : List Nat) (hp : ws = ps.filterMap (fun i => lw_tbl[i]?)) (h : ws.all goodWord = true) : ∀ w ∈ ws, w ∈ jgood := by
  intro w hw
  have h1 := List.all_eq_true.mp h w hw
  rw [hp] at hw
  obtain ⟨i, -, hi⟩ := List.mem_filterMap.mp hw
  exact List.mem_filter.mpr ⟨List.mem_of_getElem? hi, h1⟩
set_option maxRecDepth 100000 in
theorem cw_0 : ∀ w ∈ u_ws RX0 TX0 17, w ∈ jgood := j_good_ps _ [389, 391, 393, 395, 397, 399, 401, 403, 405, 407, 409, 411, 413, 415, 417, 419, 421] (by decide +kernel) (by decide +kernel)
theorem ci_0 : Jvm.Cond.instantiable RX0 17 ∈ jgood := j_w_good (p := 309) (by decide +kernel) (by decide +kernel)
theorem cn_0 : Jvm.Cond.initialized RX0 ∈ jgood := j_w_good (p := 209) (by decide +kernel) (by decide +kernel)
theorem ct_0 : ∀ k, k < 17 → tcOk (jty 0 k) (tyX0 k) = true := by decide +kernel
set_option maxRecDepth 100000 in
theorem cw_1 : ∀ w ∈ u_ws RX1 TX1 15, w ∈ jgood := j_good_ps _ [530, 532, 534, 536, 538, 540, 542, 544, 546, 548, 550, 552, 554, 556, 558] (by decide +kernel) (by decide +kernel)
theorem ci_1 : Jvm.Cond.instantiable RX1 15 ∈ jgood := j_w_good (p := 503) (by decide +kernel) (by decide +kernel)
theorem cn_1 : Jvm.Cond.initialized RX1 ∈ jgood := j_w_good (p := 216) (by decide +kernel) (by decide +kernel)
theorem ct_1 : ∀ k, k < 15 → tcOk (jty 1 k) (tyX1 k) = true := by decide +kernel
set_option maxRecDepth 100000 in
theorem cw_2 : ∀ w ∈ u_ws RX2 TX2 2, w ∈ jgood := j_good_ps _ [303, 305] (by decide +kernel) (by decide +kernel)
theorem ci_2 : Jvm.Cond.instantiable RX2 2 ∈ jgood := j_w_good (p := 294) (by decide +kernel) (by decide +kernel)
theorem cn_2 : Jvm.Cond.initialized RX2 ∈ jgood := j_w_good (p := 208) (by decide +kernel) (by decide +kernel)
theorem ct_2 : ∀ k, k < 2 → tcOk (jty 2 k) (tyX2 k) = true := by decide +kernel
set_option maxRecDepth 100000 in
theorem cw_3 : ∀ w ∈ u_ws RX3 TX3 1, w ∈ jgood := j_good_ps _ [261] (by decide +kernel) (by decide +kernel)
theorem ci_3 : Jvm.Cond.instantiable RX3 1 ∈ jgood := j_w_good (p := 235) (by decide +kernel) (by decide +kernel)
theorem cn_3 : Jvm.Cond.initialized RX3 ∈ jgood := j_w_good (p := 204) (by decide +kernel) (by decide +kernel)
theorem ct_3 : ∀ k, k < 1 → tcOk (jty 3 k) (tyX3 k) = true := by decide +kernel
set_option maxRecDepth 100000 in
theorem cw_4 : ∀ w ∈ u_ws RX4 TX4 6, w ∈ jgood := j_good_ps _ [279, 281, 283, 285, 287, 289] (by decide +kernel) (by decide +kernel)
theorem ci_4 : Jvm.Cond.instantiable RX4 6 ∈ jgood := j_w_good (p := 267) (by decide +kernel) (by decide +kernel)
theorem cn_4 : Jvm.Cond.initialized RX4 ∈ jgood := j_w_good (p := 207) (by decide +kernel) (by decide +kernel)
theorem ct_4 : ∀ k, k < 6 → tcOk (jty 4 k) (tyX4 k) = true := by decide +kernel
set_option maxRecDepth 100000 in
theorem cw_5 : ∀ w ∈ u_ws RX5 TX5 13, w ∈ jgood := j_good_ps _ [722, 724, 726, 728, 730, 732, 734, 736, 738, 740, 742, 744, 746] (by decide +kernel) (by decide +kernel)
theorem ci_5 : Jvm.Cond.instantiable RX5 13 ∈ jgood := j_w_good (p := 696) (by decide +kernel) (by decide +kernel)
theorem cn_5 : Jvm.Cond.initialized RX5 ∈ jgood := j_w_good (p := 218) (by decide +kernel) (by decide +kernel)
theorem ct_5 : ∀ k, k < 13 → tcOk (jty 5 k) (tyX5 k) = true := by decide +kernel
set_option maxRecDepth 100000 in
theorem cw_6 : ∀ w ∈ u_ws RX6 TX6 14, w ∈ jgood := j_good_ps _ [467, 469, 471, 473, 475, 477, 479, 481, 483, 485, 487, 489, 491, 493] (by decide +kernel) (by decide +kernel)
theorem ci_6 : Jvm.Cond.instantiable RX6 14 ∈ jgood := j_w_good (p := 426) (by decide +kernel) (by decide +kernel)
theorem cn_6 : Jvm.Cond.initialized RX6 ∈ jgood := j_w_good (p := 214) (by decide +kernel) (by decide +kernel)
theorem ct_6 : ∀ k, k < 14 → tcOk (jty 6 k) (tyX6 k) = true := by decide +kernel
set_option maxRecDepth 100000 in
theorem cw_7 : ∀ w ∈ u_ws RX7 TX7 19, w ∈ jgood := j_good_ps _ [583, 585, 587, 589, 591, 593, 595, 597, 599, 601, 603, 605, 607, 609, 611, 613, 615, 617, 619] (by decide +kernel) (by decide +kernel)
theorem ci_7 : Jvm.Cond.instantiable RX7 19 ∈ jgood := j_w_good (p := 497) (by decide +kernel) (by decide +kernel)
theorem cn_7 : Jvm.Cond.initialized RX7 ∈ jgood := j_w_good (p := 215) (by decide +kernel) (by decide +kernel)
theorem ct_7 : ∀ k, k < 19 → tcOk (jty 7 k) (tyX7 k) = true := by decide +kernel
set_option maxRecDepth 100000 in
theorem cw_8 : ∀ w ∈ u_ws RX8 TX8 20, w ∈ jgood := j_good_ps _ [654, 656, 658, 660, 662, 664, 666, 668, 670, 672, 674, 676, 678, 680, 682, 684, 686, 688, 690, 692] (by decide +kernel) (by decide +kernel)
theorem ci_8 : Jvm.Cond.instantiable RX8 20 ∈ jgood := j_w_good (p := 623) (by decide +kernel) (by decide +kernel)
theorem cn_8 : Jvm.Cond.initialized RX8 ∈ jgood := j_w_good (p := 217) (by decide +kernel) (by decide +kernel)
theorem ct_8 : ∀ k, k < 20 → tcOk (jty 8 k) (tyX8 k) = true := by decide +kernel
set_option maxRecDepth 100000 in
theorem cw_9 : ∀ w ∈ u_ws RX9 TX9 13, w ∈ jgood := j_good_ps _ [779, 781, 783, 785, 787, 789, 791, 793, 795, 797, 799, 801, 803] (by decide +kernel) (by decide +kernel)
theorem ci_9 : Jvm.Cond.instantiable RX9 13 ∈ jgood := j_w_good (p := 750) (by decide +kernel) (by decide +kernel)
theorem cn_9 : Jvm.Cond.initialized RX9 ∈ jgood := j_w_good (p := 219) (by decide +kernel) (by decide +kernel)
theorem ct_9 : ∀ k, k < 13 → tcOk (jty 9 k) (tyX9 k) = true := by decide +kernel
set_option maxRecDepth 100000 in
theorem cw_10 : ∀ w ∈ u_ws RX10 TX10 14, w ∈ jgood := j_good_ps _ [828, 830, 832, 834, 836, 838, 840, 842, 844, 846, 848, 850, 852, 854] (by decide +kernel) (by decide +kernel)
theorem ci_10 : Jvm.Cond.instantiable RX10 14 ∈ jgood := j_w_good (p := 807) (by decide +kernel) (by decide +kernel)
theorem cn_10 : Jvm.Cond.initialized RX10 ∈ jgood := j_w_good (p := 220) (by decide +kernel) (by decide +kernel)
theorem ct_10 : ∀ k, k < 14 → tcOk (jty 10 k) (tyX10 k) = true := by decide +kernel
set_option maxRecDepth 100000 in
theorem cw_11 : ∀ w ∈ u_ws RX11 TX11 20, w ∈ jgood := j_good_ps _ [877, 879, 881, 883, 885, 887, 889, 891, 893, 895, 897, 899, 901, 903, 905, 907, 909, 911, 913, 915] (by decide +kernel) (by decide +kernel)
theorem ci_11 : Jvm.Cond.instantiable RX11 20 ∈ jgood := j_w_good (p := 227) (by decide +kernel) (by decide +kernel)
theorem cn_11 : Jvm.Cond.initialized RX11 ∈ jgood := j_w_good (p := 203) (by decide +kernel) (by decide +kernel)
theorem ct_11 : ∀ k, k < 20 → tcOk (jty 11 k) (tyX11 k) = true := by decide +kernel
set_option maxRecDepth 100000 in
theorem cw_12 : ∀ w ∈ u_ws RX12 TX12 128, w ∈ jgood := j_good_ps _ [2132, 2134, 2136, 2138, 2140, 2142, 2144, 2146, 2148, 2150, 2152, 2154, 2156, 2158, 2160, 2162, 2164, 2166, 2168, 2170, 2172, 2174, 2176, 2178, 2180, 2182, 2184, 2186, 2188, 2190, 2192, 2194, 2196, 2198, 2200, 2202, 2204, 2206, 2208, 2210, 2212, 2214, 2216, 2218, 2220, 2222, 2224, 2226, 2228, 2230, 2232, 2234, 2236, 2238, 2240, 2242, 2244, 2246, 2248, 2250, 2252, 2254, 2256, 2258, 2260, 2262, 2264, 2266, 2268, 2270, 2272, 2274, 2276, 2278, 2280, 2282, 2284, 2286, 2288, 2290, 2292, 2294, 2296, 2298, 2300, 2302, 2304, 2306, 2308, 2310, 2312, 2314, 2316, 2318, 2320, 2322, 2324, 2326, 2328, 2330, 2332, 2334, 2336, 2338, 2340, 2342, 2344, 2346, 2348, 2350, 2352, 2354, 2356, 2358, 2360, 2362, 2364, 2366, 2368, 2370, 2372, 2374, 2376, 2378, 2380, 2382, 2384, 2386] (by decide +kernel) (by decide +kernel)
theorem ci_12 : Jvm.Cond.instantiable RX12 128 ∈ jgood := j_w_good (p := 1864) (by decide +kernel) (by decide +kernel)
theorem cn_12 : Jvm.Cond.initialized RX12 ∈ jgood := j_w_good (p := 221) (by decide +kernel) (by decide +kernel)
theorem ct_12 : ∀ k, k < 128 → tcOk (jty 12 k) (tyX12 k) = true := by decide +kernel
/-- what is known of a class of the worlds -/
def jCl (ci : Nat) (C : String) (T : u_T) (N : Nat) : Prop := (∀ w ∈ u_ws C T N, w ∈ jgood) ∧ Jvm.Cond.instantiable C N ∈ jgood ∧ Jvm.Cond.initialized C ∈ jgood ∧ (∀ a, a < N → ∀ b, b < N → a ≠ b → (T a).2.1 ≠ (T b).2.1) ∧ ci < 100 ∧ ∃ ty : Nat → FieldType, (∀ k, k < N → parseFieldDescriptor (T k).2.2.1 = some (ty k)) ∧ ∀ k, k < N → tcOk (jty ci k) (ty k) = true
theorem jCl_of : ∀ (ci : Nat) (C : String) (T : u_T) (N : Nat), vwCl[ci]? = some (C, T, N) → jCl ci C T N := by
  intro ci C T N h
  match ci, h with
  | 0, h => cases h; exact ⟨cw_0, ci_0, cn_0, nmX0, by decide, tyX0, tyX0_ok, ct_0⟩
  | 1, h => cases h; exact ⟨cw_1, ci_1, cn_1, nmX1, by decide, tyX1, tyX1_ok, ct_1⟩
  | 2, h => cases h; exact ⟨cw_2, ci_2, cn_2, nmX2, by decide, tyX2, tyX2_ok, ct_2⟩
  | 3, h => cases h; exact ⟨cw_3, ci_3, cn_3, nmX3, by decide, tyX3, tyX3_ok, ct_3⟩
  | 4, h => cases h; exact ⟨cw_4, ci_4, cn_4, nmX4, by decide, tyX4, tyX4_ok, ct_4⟩
  | 5, h => cases h; exact ⟨cw_5, ci_5, cn_5, nmX5, by decide, tyX5, tyX5_ok, ct_5⟩
  | 6, h => cases h; exact ⟨cw_6, ci_6, cn_6, nmX6, by decide, tyX6, tyX6_ok, ct_6⟩
  | 7, h => cases h; exact ⟨cw_7, ci_7, cn_7, nmX7, by decide, tyX7, tyX7_ok, ct_7⟩
  | 8, h => cases h; exact ⟨cw_8, ci_8, cn_8, nmX8, by decide, tyX8, tyX8_ok, ct_8⟩
  | 9, h => cases h; exact ⟨cw_9, ci_9, cn_9, nmX9, by decide, tyX9, tyX9_ok, ct_9⟩
  | 10, h => cases h; exact ⟨cw_10, ci_10, cn_10, nmX10, by decide, tyX10, tyX10_ok, ct_10⟩
  | 11, h => cases h; exact ⟨cw_11, ci_11, cn_11, nmX11, by decide, tyX11, tyX11_ok, ct_11⟩
  | 12, h => cases h; exact ⟨cw_12, ci_12, cn_12, nmX12, by decide, tyX12, tyX12_ok, ct_12⟩
  | n + 13, h => simp [vwCl] at h
theorem wm_max_s : Jvm.Cond.static Lib.Math.max.name ∈ jgood := j_w_good (p := 258) (by decide +kernel) (by decide +kernel)
theorem wm_max_c : Jvm.Cond.code Lib.Math.max.name Lib.Math.max.code 2 (some .int) ∈ jgood := j_w_good (p := 259) (by decide +kernel) (by decide +kernel)
theorem wm_min_s : Jvm.Cond.static Lib.Math.min.name ∈ jgood := j_w_good (p := 1046) (by decide +kernel) (by decide +kernel)
theorem wm_min_c : Jvm.Cond.code Lib.Math.min.name Lib.Math.min.code 2 (some .int) ∈ jgood := j_w_good (p := 1047) (by decide +kernel) (by decide +kernel)
theorem wm_abs_s : Jvm.Cond.static Lib.MathLoose.abs_long.x ∈ jgood := j_w_good (p := 1535) (by decide +kernel) (by decide +kernel)
theorem wm_abs_c : Jvm.Cond.code Lib.MathLoose.abs_long.x Lib.MathLoose.abs_long.code 2 (some .long) ∈ jgood := j_w_good (p := 1536) (by decide +kernel) (by decide +kernel)
theorem wm_i : Jvm.Cond.initialized "java/lang/Math" ∈ jgood := j_w_good (p := 206) (by decide +kernel) (by decide +kernel)
theorem wc_n : Jvm.Cond.native arraycopyName ∈ jgood := j_w_good (p := 1004) (by decide +kernel) (by decide +kernel)
theorem wc_s : Jvm.Cond.static arraycopyName ∈ jgood := j_w_good (p := 1003) (by decide +kernel) (by decide +kernel)
theorem wc_i : Jvm.Cond.initialized "java/lang/System" ∈ jgood := j_w_good (p := 223) (by decide +kernel) (by decide +kernel)
theorem wo_m : Jvm.Cond.instanceMethod Lib.objectInit ∈ jgood := j_w_good (p := 232) (by decide +kernel) (by decide +kernel)
theorem wo_c : Jvm.Cond.code Lib.objectInit ⟨#[0xb1]⟩ 1 none ∈ jgood := j_w_good (p := 233) (by decide +kernel) (by decide +kernel)
theorem wa_int : Jvm.Cond.arrayClass .int ∈ jgood := j_w_good (p := 264) (by decide +kernel) (by decide +kernel)
theorem wa_byte : Jvm.Cond.arrayClass .byte ∈ jgood := j_w_good (p := 292) (by decide +kernel) (by decide +kernel)
theorem wa_long : Jvm.Cond.arrayClass .long ∈ jgood := j_w_good (p := 424) (by decide +kernel) (by decide +kernel)
theorem wa_boolean : Jvm.Cond.arrayClass .boolean ∈ jgood := j_w_good (p := 2389) (by decide +kernel) (by decide +kernel)
