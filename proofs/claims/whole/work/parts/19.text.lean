/-! THE TEXTS' OWN METHODS, walked: length, charAt, indexOf -/
theorem tf_val : Jvm.Cond.fieldLink RJ0 9 "java/lang/String" "value" "[B" ∈ jgood := j_w_good (p := 2872) (by decide +kernel) (by decide +kernel)
theorem tf_cod : Jvm.Cond.fieldLink RJ0 15 "java/lang/String" "coder" "B" ∈ jgood := j_w_good (p := 2873) (by decide +kernel) (by decide +kernel)
theorem tf_cmp : Jvm.Cond.fieldLink RJ0 38 "java/lang/String" "COMPACT_STRINGS" "Z" ∈ jgood := j_w_good (p := 326) (by decide +kernel) (by decide +kernel)
theorem tf_sio : Jvm.Cond.fieldLink RJ0 1053 "jdk/internal/util/Preconditions" "SIOOBE_FORMATTER" "Ljava/util/function/BiFunction;" ∈ jgood := j_w_good (p := 342) (by decide +kernel) (by decide +kernel)
theorem tl_cod : Jvm.Cond.methodLink RJ0 335 yJ0_coder_7d493 ∈ jgood := j_w_good (p := 322) (by decide +kernel) (by decide +kernel)
theorem tl_lat : Jvm.Cond.methodLink RJ0 492 yJ0_isLatin1_aae02 ∈ jgood := j_w_good (p := 332) (by decide +kernel) (by decide +kernel)
theorem tl_cha : Jvm.Cond.methodLink RJ0 495 yJ1_charAt_3b067 ∈ jgood := j_w_good (p := 336) (by decide +kernel) (by decide +kernel)
theorem tl_ck3 : Jvm.Cond.methodLink RJ0 1059 yJ3_checkIndex_8e157 ∈ jgood := j_w_good (p := 344) (by decide +kernel) (by decide +kernel)
theorem tl_chk : Jvm.Cond.methodLink RJ1 9 yJ0_checkIndex_df160 ∈ jgood := j_w_good (p := 339) (by decide +kernel) (by decide +kernel)
theorem tl_ix2 : Jvm.Cond.methodLink RJ0 633 yJ0_indexOf_7cf53 ∈ jgood := j_w_good (p := 1119) (by decide +kernel) (by decide +kernel)
theorem tl_len : Jvm.Cond.methodLink RJ0 505 yJ0_length_8abf5 ∈ jgood := j_w_good (p := 1123) (by decide +kernel) (by decide +kernel)
theorem tl_ixl : Jvm.Cond.methodLink RJ0 637 yJ1_indexOf_4cfef ∈ jgood := j_w_good (p := 1124) (by decide +kernel) (by decide +kernel)
theorem tl_can : Jvm.Cond.methodLink RJ1 88 yJ1_canEncode_9a6ad ∈ jgood := j_w_good (p := 1127) (by decide +kernel) (by decide +kernel)
theorem tl_max : Jvm.Cond.methodLink RJ1 92 Lib.Math.max.name ∈ jgood := j_w_good (p := 1130) (by decide +kernel) (by decide +kernel)
theorem tl_min : Jvm.Cond.methodLink RJ1 38 Lib.Math.min.name ∈ jgood := j_w_good (p := 1131) (by decide +kernel) (by decide +kernel)
theorem tl_ixc : Jvm.Cond.methodLink RJ1 95 yJ1_indexOfChar_4cfef ∈ jgood := j_w_good (p := 1132) (by decide +kernel) (by decide +kernel)
theorem tc_J0_length_8abf5 : Jvm.Cond.code yJ0_length_8abf5 cJ0_length_8abf5 1 (some .int) ∈ jgood := j_w_good (p := 321) (by decide +kernel) (by decide +kernel)
theorem tm_J0_length_8abf5 : Jvm.Cond.instanceMethod yJ0_length_8abf5 ∈ jgood := j_w_good (p := 319) (by decide +kernel) (by decide +kernel)
theorem tq_J0_length_8abf5 : Jvm.Cond.selects RJ0 yJ0_length_8abf5 yJ0_length_8abf5 ∈ jgood := j_w_good (p := 320) (by decide +kernel) (by decide +kernel)
def tw_J0_length_8abf5 : List Jvm.Cond := .code yJ0_length_8abf5 cJ0_length_8abf5 1 (some .int) :: jgood
theorem dJ0_length_8abf5_0 : decode cJ0_length_8abf5 0 = .ok (.aload_n 0, 1) := by decide +kernel
theorem dJ0_length_8abf5_1 : decode cJ0_length_8abf5 1 = .ok (.getfield 9, 3) := by decide +kernel
theorem dJ0_length_8abf5_4 : decode cJ0_length_8abf5 4 = .ok (.arraylength, 1) := by decide +kernel
theorem dJ0_length_8abf5_5 : decode cJ0_length_8abf5 5 = .ok (.aload_n 0, 1) := by decide +kernel
theorem dJ0_length_8abf5_6 : decode cJ0_length_8abf5 6 = .ok (.invokevirtual 335, 3) := by decide +kernel
theorem dJ0_length_8abf5_9 : decode cJ0_length_8abf5 9 = .ok (.ishr, 1) := by decide +kernel
theorem dJ0_length_8abf5_10 : decode cJ0_length_8abf5 10 = .ok (.ireturn, 1) := by decide +kernel
theorem tc_J0_coder_7d493 : Jvm.Cond.code yJ0_coder_7d493 cJ0_coder_7d493 1 (some .byte) ∈ jgood := j_w_good (p := 325) (by decide +kernel) (by decide +kernel)
theorem tm_J0_coder_7d493 : Jvm.Cond.instanceMethod yJ0_coder_7d493 ∈ jgood := j_w_good (p := 323) (by decide +kernel) (by decide +kernel)
theorem tq_J0_coder_7d493 : Jvm.Cond.selects RJ0 yJ0_coder_7d493 yJ0_coder_7d493 ∈ jgood := j_w_good (p := 324) (by decide +kernel) (by decide +kernel)
def tw_J0_coder_7d493 : List Jvm.Cond := .code yJ0_coder_7d493 cJ0_coder_7d493 1 (some .byte) :: jgood
theorem dJ0_coder_7d493_0 : decode cJ0_coder_7d493 0 = .ok (.getstatic 38, 3) := by decide +kernel
theorem dJ0_coder_7d493_3 : decode cJ0_coder_7d493 3 = .ok (.ifCond .eq 10, 3) := by decide +kernel
theorem dJ0_coder_7d493_6 : decode cJ0_coder_7d493 6 = .ok (.aload_n 0, 1) := by decide +kernel
theorem dJ0_coder_7d493_7 : decode cJ0_coder_7d493 7 = .ok (.getfield 15, 3) := by decide +kernel
theorem dJ0_coder_7d493_10 : decode cJ0_coder_7d493 10 = .ok (.goto 4, 3) := by decide +kernel
theorem dJ0_coder_7d493_13 : decode cJ0_coder_7d493 13 = .ok (.iconst 1, 1) := by decide +kernel
theorem dJ0_coder_7d493_14 : decode cJ0_coder_7d493 14 = .ok (.ireturn, 1) := by decide +kernel
theorem tc_J0_charAt_5068e : Jvm.Cond.code yJ0_charAt_5068e cJ0_charAt_5068e 2 (some .char) ∈ jgood := j_w_good (p := 331) (by decide +kernel) (by decide +kernel)
theorem tm_J0_charAt_5068e : Jvm.Cond.instanceMethod yJ0_charAt_5068e ∈ jgood := j_w_good (p := 329) (by decide +kernel) (by decide +kernel)
theorem tq_J0_charAt_5068e : Jvm.Cond.selects RJ0 yJ0_charAt_5068e yJ0_charAt_5068e ∈ jgood := j_w_good (p := 330) (by decide +kernel) (by decide +kernel)
def tw_J0_charAt_5068e : List Jvm.Cond := .code yJ0_charAt_5068e cJ0_charAt_5068e 2 (some .char) :: jgood
theorem dJ0_charAt_5068e_0 : decode cJ0_charAt_5068e 0 = .ok (.aload_n 0, 1) := by decide +kernel
theorem dJ0_charAt_5068e_1 : decode cJ0_charAt_5068e 1 = .ok (.invokevirtual 492, 3) := by decide +kernel
theorem dJ0_charAt_5068e_4 : decode cJ0_charAt_5068e 4 = .ok (.ifCond .eq 12, 3) := by decide +kernel
theorem dJ0_charAt_5068e_7 : decode cJ0_charAt_5068e 7 = .ok (.aload_n 0, 1) := by decide +kernel
theorem dJ0_charAt_5068e_8 : decode cJ0_charAt_5068e 8 = .ok (.getfield 9, 3) := by decide +kernel
theorem dJ0_charAt_5068e_11 : decode cJ0_charAt_5068e 11 = .ok (.iload_n 1, 1) := by decide +kernel
theorem dJ0_charAt_5068e_12 : decode cJ0_charAt_5068e 12 = .ok (.invokestatic 495, 3) := by decide +kernel
theorem dJ0_charAt_5068e_15 : decode cJ0_charAt_5068e 15 = .ok (.ireturn, 1) := by decide +kernel
theorem dJ0_charAt_5068e_16 : decode cJ0_charAt_5068e 16 = .ok (.aload_n 0, 1) := by decide +kernel
theorem dJ0_charAt_5068e_17 : decode cJ0_charAt_5068e 17 = .ok (.getfield 9, 3) := by decide +kernel
theorem dJ0_charAt_5068e_20 : decode cJ0_charAt_5068e 20 = .ok (.iload_n 1, 1) := by decide +kernel
theorem dJ0_charAt_5068e_21 : decode cJ0_charAt_5068e 21 = .ok (.invokestatic 498, 3) := by decide +kernel
theorem dJ0_charAt_5068e_24 : decode cJ0_charAt_5068e 24 = .ok (.ireturn, 1) := by decide +kernel
theorem tc_J0_isLatin1_aae02 : Jvm.Cond.code yJ0_isLatin1_aae02 cJ0_isLatin1_aae02 1 (some .boolean) ∈ jgood := j_w_good (p := 335) (by decide +kernel) (by decide +kernel)
theorem tm_J0_isLatin1_aae02 : Jvm.Cond.instanceMethod yJ0_isLatin1_aae02 ∈ jgood := j_w_good (p := 333) (by decide +kernel) (by decide +kernel)
theorem tq_J0_isLatin1_aae02 : Jvm.Cond.selects RJ0 yJ0_isLatin1_aae02 yJ0_isLatin1_aae02 ∈ jgood := j_w_good (p := 334) (by decide +kernel) (by decide +kernel)
def tw_J0_isLatin1_aae02 : List Jvm.Cond := .code yJ0_isLatin1_aae02 cJ0_isLatin1_aae02 1 (some .boolean) :: jgood
theorem dJ0_isLatin1_aae02_0 : decode cJ0_isLatin1_aae02 0 = .ok (.getstatic 38, 3) := by decide +kernel
theorem dJ0_isLatin1_aae02_3 : decode cJ0_isLatin1_aae02 3 = .ok (.ifCond .eq 14, 3) := by decide +kernel
theorem dJ0_isLatin1_aae02_6 : decode cJ0_isLatin1_aae02 6 = .ok (.aload_n 0, 1) := by decide +kernel
theorem dJ0_isLatin1_aae02_7 : decode cJ0_isLatin1_aae02 7 = .ok (.getfield 15, 3) := by decide +kernel
theorem dJ0_isLatin1_aae02_10 : decode cJ0_isLatin1_aae02 10 = .ok (.ifCond .ne 7, 3) := by decide +kernel
theorem dJ0_isLatin1_aae02_13 : decode cJ0_isLatin1_aae02 13 = .ok (.iconst 1, 1) := by decide +kernel
theorem dJ0_isLatin1_aae02_14 : decode cJ0_isLatin1_aae02 14 = .ok (.goto 4, 3) := by decide +kernel
theorem dJ0_isLatin1_aae02_17 : decode cJ0_isLatin1_aae02 17 = .ok (.iconst 0, 1) := by decide +kernel
theorem dJ0_isLatin1_aae02_18 : decode cJ0_isLatin1_aae02 18 = .ok (.ireturn, 1) := by decide +kernel
theorem tc_J1_charAt_3b067 : Jvm.Cond.code yJ1_charAt_3b067 cJ1_charAt_3b067 2 (some .char) ∈ jgood := j_w_good (p := 338) (by decide +kernel) (by decide +kernel)
theorem ts_J1_charAt_3b067 : Jvm.Cond.static yJ1_charAt_3b067 ∈ jgood := j_w_good (p := 337) (by decide +kernel) (by decide +kernel)
def tw_J1_charAt_3b067 : List Jvm.Cond := .code yJ1_charAt_3b067 cJ1_charAt_3b067 2 (some .char) :: jgood
theorem dJ1_charAt_3b067_0 : decode cJ1_charAt_3b067 0 = .ok (.iload_n 1, 1) := by decide +kernel
theorem dJ1_charAt_3b067_1 : decode cJ1_charAt_3b067 1 = .ok (.aload_n 0, 1) := by decide +kernel
theorem dJ1_charAt_3b067_2 : decode cJ1_charAt_3b067 2 = .ok (.arraylength, 1) := by decide +kernel
theorem dJ1_charAt_3b067_3 : decode cJ1_charAt_3b067 3 = .ok (.invokestatic 9, 3) := by decide +kernel
theorem dJ1_charAt_3b067_6 : decode cJ1_charAt_3b067 6 = .ok (.aload_n 0, 1) := by decide +kernel
theorem dJ1_charAt_3b067_7 : decode cJ1_charAt_3b067 7 = .ok (.iload_n 1, 1) := by decide +kernel
theorem dJ1_charAt_3b067_8 : decode cJ1_charAt_3b067 8 = .ok (.baload, 1) := by decide +kernel
theorem dJ1_charAt_3b067_9 : decode cJ1_charAt_3b067 9 = .ok (.sipush 255, 3) := by decide +kernel
theorem dJ1_charAt_3b067_12 : decode cJ1_charAt_3b067 12 = .ok (.iand, 1) := by decide +kernel
theorem dJ1_charAt_3b067_13 : decode cJ1_charAt_3b067 13 = .ok (.i2c, 1) := by decide +kernel
theorem dJ1_charAt_3b067_14 : decode cJ1_charAt_3b067 14 = .ok (.ireturn, 1) := by decide +kernel
theorem tc_J0_checkIndex_df160 : Jvm.Cond.code yJ0_checkIndex_df160 cJ0_checkIndex_df160 2 none ∈ jgood := j_w_good (p := 341) (by decide +kernel) (by decide +kernel)
theorem ts_J0_checkIndex_df160 : Jvm.Cond.static yJ0_checkIndex_df160 ∈ jgood := j_w_good (p := 340) (by decide +kernel) (by decide +kernel)
def tw_J0_checkIndex_df160 : List Jvm.Cond := .code yJ0_checkIndex_df160 cJ0_checkIndex_df160 2 none :: jgood
theorem dJ0_checkIndex_df160_0 : decode cJ0_checkIndex_df160 0 = .ok (.iload_n 0, 1) := by decide +kernel
theorem dJ0_checkIndex_df160_1 : decode cJ0_checkIndex_df160 1 = .ok (.iload_n 1, 1) := by decide +kernel
theorem dJ0_checkIndex_df160_2 : decode cJ0_checkIndex_df160 2 = .ok (.getstatic 1053, 3) := by decide +kernel
theorem dJ0_checkIndex_df160_5 : decode cJ0_checkIndex_df160 5 = .ok (.invokestatic 1059, 3) := by decide +kernel
theorem dJ0_checkIndex_df160_8 : decode cJ0_checkIndex_df160 8 = .ok (.pop, 1) := by decide +kernel
theorem dJ0_checkIndex_df160_9 : decode cJ0_checkIndex_df160 9 = .ok (.return_, 1) := by decide +kernel
theorem tc_J3_checkIndex_8e157 : Jvm.Cond.code yJ3_checkIndex_8e157 cJ3_checkIndex_8e157 3 (some .int) ∈ jgood := j_w_good (p := 346) (by decide +kernel) (by decide +kernel)
theorem ts_J3_checkIndex_8e157 : Jvm.Cond.static yJ3_checkIndex_8e157 ∈ jgood := j_w_good (p := 345) (by decide +kernel) (by decide +kernel)
def tw_J3_checkIndex_8e157 : List Jvm.Cond := .code yJ3_checkIndex_8e157 cJ3_checkIndex_8e157 3 (some .int) :: jgood
theorem dJ3_checkIndex_8e157_0 : decode cJ3_checkIndex_8e157 0 = .ok (.iload_n 0, 1) := by decide +kernel
theorem dJ3_checkIndex_8e157_1 : decode cJ3_checkIndex_8e157 1 = .ok (.ifCond .lt 8, 3) := by decide +kernel
theorem dJ3_checkIndex_8e157_4 : decode cJ3_checkIndex_8e157 4 = .ok (.iload_n 0, 1) := by decide +kernel
theorem dJ3_checkIndex_8e157_5 : decode cJ3_checkIndex_8e157 5 = .ok (.iload_n 1, 1) := by decide +kernel
theorem dJ3_checkIndex_8e157_6 : decode cJ3_checkIndex_8e157 6 = .ok (.if_icmp .lt 10, 3) := by decide +kernel
theorem dJ3_checkIndex_8e157_9 : decode cJ3_checkIndex_8e157 9 = .ok (.aload_n 2, 1) := by decide +kernel
theorem dJ3_checkIndex_8e157_10 : decode cJ3_checkIndex_8e157 10 = .ok (.iload_n 0, 1) := by decide +kernel
theorem dJ3_checkIndex_8e157_11 : decode cJ3_checkIndex_8e157 11 = .ok (.iload_n 1, 1) := by decide +kernel
theorem dJ3_checkIndex_8e157_12 : decode cJ3_checkIndex_8e157 12 = .ok (.invokestatic 95, 3) := by decide +kernel
theorem dJ3_checkIndex_8e157_15 : decode cJ3_checkIndex_8e157 15 = .ok (.athrow, 1) := by decide +kernel
theorem dJ3_checkIndex_8e157_16 : decode cJ3_checkIndex_8e157 16 = .ok (.iload_n 0, 1) := by decide +kernel
theorem dJ3_checkIndex_8e157_17 : decode cJ3_checkIndex_8e157 17 = .ok (.ireturn, 1) := by decide +kernel
theorem tc_J0_indexOf_0f7a4 : Jvm.Cond.code yJ0_indexOf_0f7a4 cJ0_indexOf_0f7a4 2 (some .int) ∈ jgood := j_w_good (p := 1118) (by decide +kernel) (by decide +kernel)
theorem tm_J0_indexOf_0f7a4 : Jvm.Cond.instanceMethod yJ0_indexOf_0f7a4 ∈ jgood := j_w_good (p := 1116) (by decide +kernel) (by decide +kernel)
theorem tq_J0_indexOf_0f7a4 : Jvm.Cond.selects RJ0 yJ0_indexOf_0f7a4 yJ0_indexOf_0f7a4 ∈ jgood := j_w_good (p := 1117) (by decide +kernel) (by decide +kernel)
def tw_J0_indexOf_0f7a4 : List Jvm.Cond := .code yJ0_indexOf_0f7a4 cJ0_indexOf_0f7a4 2 (some .int) :: jgood
theorem dJ0_indexOf_0f7a4_0 : decode cJ0_indexOf_0f7a4 0 = .ok (.aload_n 0, 1) := by decide +kernel
theorem dJ0_indexOf_0f7a4_1 : decode cJ0_indexOf_0f7a4 1 = .ok (.iload_n 1, 1) := by decide +kernel
theorem dJ0_indexOf_0f7a4_2 : decode cJ0_indexOf_0f7a4 2 = .ok (.iconst 0, 1) := by decide +kernel
theorem dJ0_indexOf_0f7a4_3 : decode cJ0_indexOf_0f7a4 3 = .ok (.invokevirtual 633, 3) := by decide +kernel
theorem dJ0_indexOf_0f7a4_6 : decode cJ0_indexOf_0f7a4 6 = .ok (.ireturn, 1) := by decide +kernel
theorem tc_J0_indexOf_7cf53 : Jvm.Cond.code yJ0_indexOf_7cf53 cJ0_indexOf_7cf53 3 (some .int) ∈ jgood := j_w_good (p := 1122) (by decide +kernel) (by decide +kernel)
theorem tm_J0_indexOf_7cf53 : Jvm.Cond.instanceMethod yJ0_indexOf_7cf53 ∈ jgood := j_w_good (p := 1120) (by decide +kernel) (by decide +kernel)
theorem tq_J0_indexOf_7cf53 : Jvm.Cond.selects RJ0 yJ0_indexOf_7cf53 yJ0_indexOf_7cf53 ∈ jgood := j_w_good (p := 1121) (by decide +kernel) (by decide +kernel)
def tw_J0_indexOf_7cf53 : List Jvm.Cond := .code yJ0_indexOf_7cf53 cJ0_indexOf_7cf53 3 (some .int) :: jgood
theorem dJ0_indexOf_7cf53_0 : decode cJ0_indexOf_7cf53 0 = .ok (.aload_n 0, 1) := by decide +kernel
theorem dJ0_indexOf_7cf53_1 : decode cJ0_indexOf_7cf53 1 = .ok (.invokevirtual 492, 3) := by decide +kernel
theorem dJ0_indexOf_7cf53_4 : decode cJ0_indexOf_7cf53 4 = .ok (.ifCond .eq 19, 3) := by decide +kernel
theorem dJ0_indexOf_7cf53_7 : decode cJ0_indexOf_7cf53 7 = .ok (.aload_n 0, 1) := by decide +kernel
theorem dJ0_indexOf_7cf53_8 : decode cJ0_indexOf_7cf53 8 = .ok (.getfield 9, 3) := by decide +kernel
theorem dJ0_indexOf_7cf53_11 : decode cJ0_indexOf_7cf53 11 = .ok (.iload_n 1, 1) := by decide +kernel
theorem dJ0_indexOf_7cf53_12 : decode cJ0_indexOf_7cf53 12 = .ok (.iload_n 2, 1) := by decide +kernel
theorem dJ0_indexOf_7cf53_13 : decode cJ0_indexOf_7cf53 13 = .ok (.aload_n 0, 1) := by decide +kernel
theorem dJ0_indexOf_7cf53_14 : decode cJ0_indexOf_7cf53 14 = .ok (.invokevirtual 505, 3) := by decide +kernel
theorem dJ0_indexOf_7cf53_17 : decode cJ0_indexOf_7cf53 17 = .ok (.invokestatic 637, 3) := by decide +kernel
theorem dJ0_indexOf_7cf53_20 : decode cJ0_indexOf_7cf53 20 = .ok (.goto 16, 3) := by decide +kernel
theorem dJ0_indexOf_7cf53_23 : decode cJ0_indexOf_7cf53 23 = .ok (.aload_n 0, 1) := by decide +kernel
theorem dJ0_indexOf_7cf53_24 : decode cJ0_indexOf_7cf53 24 = .ok (.getfield 9, 3) := by decide +kernel
theorem dJ0_indexOf_7cf53_27 : decode cJ0_indexOf_7cf53 27 = .ok (.iload_n 1, 1) := by decide +kernel
theorem dJ0_indexOf_7cf53_28 : decode cJ0_indexOf_7cf53 28 = .ok (.iload_n 2, 1) := by decide +kernel
theorem dJ0_indexOf_7cf53_29 : decode cJ0_indexOf_7cf53 29 = .ok (.aload_n 0, 1) := by decide +kernel
theorem dJ0_indexOf_7cf53_30 : decode cJ0_indexOf_7cf53 30 = .ok (.invokevirtual 505, 3) := by decide +kernel
theorem dJ0_indexOf_7cf53_33 : decode cJ0_indexOf_7cf53 33 = .ok (.invokestatic 640, 3) := by decide +kernel
theorem dJ0_indexOf_7cf53_36 : decode cJ0_indexOf_7cf53 36 = .ok (.ireturn, 1) := by decide +kernel
theorem tc_J1_indexOf_4cfef : Jvm.Cond.code yJ1_indexOf_4cfef cJ1_indexOf_4cfef 4 (some .int) ∈ jgood := j_w_good (p := 1126) (by decide +kernel) (by decide +kernel)
theorem ts_J1_indexOf_4cfef : Jvm.Cond.static yJ1_indexOf_4cfef ∈ jgood := j_w_good (p := 1125) (by decide +kernel) (by decide +kernel)
def tw_J1_indexOf_4cfef : List Jvm.Cond := .code yJ1_indexOf_4cfef cJ1_indexOf_4cfef 4 (some .int) :: jgood
theorem dJ1_indexOf_4cfef_0 : decode cJ1_indexOf_4cfef 0 = .ok (.iload_n 1, 1) := by decide +kernel
theorem dJ1_indexOf_4cfef_1 : decode cJ1_indexOf_4cfef 1 = .ok (.invokestatic 88, 3) := by decide +kernel
theorem dJ1_indexOf_4cfef_4 : decode cJ1_indexOf_4cfef 4 = .ok (.ifCond .ne 5, 3) := by decide +kernel
theorem dJ1_indexOf_4cfef_7 : decode cJ1_indexOf_4cfef 7 = .ok (.iconst (-1), 1) := by decide +kernel
theorem dJ1_indexOf_4cfef_8 : decode cJ1_indexOf_4cfef 8 = .ok (.ireturn, 1) := by decide +kernel
theorem dJ1_indexOf_4cfef_9 : decode cJ1_indexOf_4cfef 9 = .ok (.iload_n 2, 1) := by decide +kernel
theorem dJ1_indexOf_4cfef_10 : decode cJ1_indexOf_4cfef 10 = .ok (.iconst 0, 1) := by decide +kernel
theorem dJ1_indexOf_4cfef_11 : decode cJ1_indexOf_4cfef 11 = .ok (.invokestatic 92, 3) := by decide +kernel
theorem dJ1_indexOf_4cfef_14 : decode cJ1_indexOf_4cfef 14 = .ok (.istore_n 2, 1) := by decide +kernel
theorem dJ1_indexOf_4cfef_15 : decode cJ1_indexOf_4cfef 15 = .ok (.iload_n 3, 1) := by decide +kernel
theorem dJ1_indexOf_4cfef_16 : decode cJ1_indexOf_4cfef 16 = .ok (.aload_n 0, 1) := by decide +kernel
theorem dJ1_indexOf_4cfef_17 : decode cJ1_indexOf_4cfef 17 = .ok (.arraylength, 1) := by decide +kernel
theorem dJ1_indexOf_4cfef_18 : decode cJ1_indexOf_4cfef 18 = .ok (.invokestatic 38, 3) := by decide +kernel
theorem dJ1_indexOf_4cfef_21 : decode cJ1_indexOf_4cfef 21 = .ok (.istore_n 3, 1) := by decide +kernel
theorem dJ1_indexOf_4cfef_22 : decode cJ1_indexOf_4cfef 22 = .ok (.iload_n 2, 1) := by decide +kernel
theorem dJ1_indexOf_4cfef_23 : decode cJ1_indexOf_4cfef 23 = .ok (.iload_n 3, 1) := by decide +kernel
theorem dJ1_indexOf_4cfef_24 : decode cJ1_indexOf_4cfef 24 = .ok (.if_icmp .lt 5, 3) := by decide +kernel
theorem dJ1_indexOf_4cfef_27 : decode cJ1_indexOf_4cfef 27 = .ok (.iconst (-1), 1) := by decide +kernel
theorem dJ1_indexOf_4cfef_28 : decode cJ1_indexOf_4cfef 28 = .ok (.ireturn, 1) := by decide +kernel
theorem dJ1_indexOf_4cfef_29 : decode cJ1_indexOf_4cfef 29 = .ok (.aload_n 0, 1) := by decide +kernel
theorem dJ1_indexOf_4cfef_30 : decode cJ1_indexOf_4cfef 30 = .ok (.iload_n 1, 1) := by decide +kernel
theorem dJ1_indexOf_4cfef_31 : decode cJ1_indexOf_4cfef 31 = .ok (.iload_n 2, 1) := by decide +kernel
theorem dJ1_indexOf_4cfef_32 : decode cJ1_indexOf_4cfef 32 = .ok (.iload_n 3, 1) := by decide +kernel
theorem dJ1_indexOf_4cfef_33 : decode cJ1_indexOf_4cfef 33 = .ok (.invokestatic 95, 3) := by decide +kernel
theorem dJ1_indexOf_4cfef_36 : decode cJ1_indexOf_4cfef 36 = .ok (.ireturn, 1) := by decide +kernel
theorem tc_J1_canEncode_9a6ad : Jvm.Cond.code yJ1_canEncode_9a6ad cJ1_canEncode_9a6ad 1 (some .boolean) ∈ jgood := j_w_good (p := 1129) (by decide +kernel) (by decide +kernel)
theorem ts_J1_canEncode_9a6ad : Jvm.Cond.static yJ1_canEncode_9a6ad ∈ jgood := j_w_good (p := 1128) (by decide +kernel) (by decide +kernel)
def tw_J1_canEncode_9a6ad : List Jvm.Cond := .code yJ1_canEncode_9a6ad cJ1_canEncode_9a6ad 1 (some .boolean) :: jgood
theorem dJ1_canEncode_9a6ad_0 : decode cJ1_canEncode_9a6ad 0 = .ok (.iload_n 0, 1) := by decide +kernel
theorem dJ1_canEncode_9a6ad_1 : decode cJ1_canEncode_9a6ad 1 = .ok (.ifCond .lt 14, 3) := by decide +kernel
theorem dJ1_canEncode_9a6ad_4 : decode cJ1_canEncode_9a6ad 4 = .ok (.iload_n 0, 1) := by decide +kernel
theorem dJ1_canEncode_9a6ad_5 : decode cJ1_canEncode_9a6ad 5 = .ok (.sipush 255, 3) := by decide +kernel
theorem dJ1_canEncode_9a6ad_8 : decode cJ1_canEncode_9a6ad 8 = .ok (.if_icmp .gt 7, 3) := by decide +kernel
theorem dJ1_canEncode_9a6ad_11 : decode cJ1_canEncode_9a6ad 11 = .ok (.iconst 1, 1) := by decide +kernel
theorem dJ1_canEncode_9a6ad_12 : decode cJ1_canEncode_9a6ad 12 = .ok (.goto 4, 3) := by decide +kernel
theorem dJ1_canEncode_9a6ad_15 : decode cJ1_canEncode_9a6ad 15 = .ok (.iconst 0, 1) := by decide +kernel
theorem dJ1_canEncode_9a6ad_16 : decode cJ1_canEncode_9a6ad 16 = .ok (.ireturn, 1) := by decide +kernel
theorem tc_J1_indexOfChar_4cfef : Jvm.Cond.code yJ1_indexOfChar_4cfef cJ1_indexOfChar_4cfef 6 (some .int) ∈ jgood := j_w_good (p := 1134) (by decide +kernel) (by decide +kernel)
theorem ts_J1_indexOfChar_4cfef : Jvm.Cond.static yJ1_indexOfChar_4cfef ∈ jgood := j_w_good (p := 1133) (by decide +kernel) (by decide +kernel)
def tw_J1_indexOfChar_4cfef : List Jvm.Cond := .code yJ1_indexOfChar_4cfef cJ1_indexOfChar_4cfef 6 (some .int) :: jgood
theorem dJ1_indexOfChar_4cfef_0 : decode cJ1_indexOfChar_4cfef 0 = .ok (.iload_n 1, 1) := by decide +kernel
theorem dJ1_indexOfChar_4cfef_1 : decode cJ1_indexOfChar_4cfef 1 = .ok (.i2b, 1) := by decide +kernel
theorem dJ1_indexOfChar_4cfef_2 : decode cJ1_indexOfChar_4cfef 2 = .ok (.istore 4, 2) := by decide +kernel
theorem dJ1_indexOfChar_4cfef_4 : decode cJ1_indexOfChar_4cfef 4 = .ok (.iload_n 2, 1) := by decide +kernel
theorem dJ1_indexOfChar_4cfef_5 : decode cJ1_indexOfChar_4cfef 5 = .ok (.istore 5, 2) := by decide +kernel
theorem dJ1_indexOfChar_4cfef_7 : decode cJ1_indexOfChar_4cfef 7 = .ok (.iload 5, 2) := by decide +kernel
theorem dJ1_indexOfChar_4cfef_9 : decode cJ1_indexOfChar_4cfef 9 = .ok (.iload_n 3, 1) := by decide +kernel
theorem dJ1_indexOfChar_4cfef_10 : decode cJ1_indexOfChar_4cfef 10 = .ok (.if_icmp .ge 21, 3) := by decide +kernel
theorem dJ1_indexOfChar_4cfef_13 : decode cJ1_indexOfChar_4cfef 13 = .ok (.aload_n 0, 1) := by decide +kernel
theorem dJ1_indexOfChar_4cfef_14 : decode cJ1_indexOfChar_4cfef 14 = .ok (.iload 5, 2) := by decide +kernel
theorem dJ1_indexOfChar_4cfef_16 : decode cJ1_indexOfChar_4cfef 16 = .ok (.baload, 1) := by decide +kernel
theorem dJ1_indexOfChar_4cfef_17 : decode cJ1_indexOfChar_4cfef 17 = .ok (.iload 4, 2) := by decide +kernel
theorem dJ1_indexOfChar_4cfef_19 : decode cJ1_indexOfChar_4cfef 19 = .ok (.if_icmp .ne 6, 3) := by decide +kernel
theorem dJ1_indexOfChar_4cfef_22 : decode cJ1_indexOfChar_4cfef 22 = .ok (.iload 5, 2) := by decide +kernel
theorem dJ1_indexOfChar_4cfef_24 : decode cJ1_indexOfChar_4cfef 24 = .ok (.ireturn, 1) := by decide +kernel
theorem dJ1_indexOfChar_4cfef_25 : decode cJ1_indexOfChar_4cfef 25 = .ok (.iinc 5 1, 3) := by decide +kernel
theorem dJ1_indexOfChar_4cfef_28 : decode cJ1_indexOfChar_4cfef 28 = .ok (.goto (-21), 3) := by decide +kernel
theorem dJ1_indexOfChar_4cfef_31 : decode cJ1_indexOfChar_4cfef 31 = .ok (.iconst (-1), 1) := by decide +kernel
theorem dJ1_indexOfChar_4cfef_32 : decode cJ1_indexOfChar_4cfef 32 = .ok (.ireturn, 1) := by decide +kernel
theorem ti_0 : Jvm.Cond.initialized RJ0 ∈ jgood := j_w_good (p := 210) (by decide +kernel) (by decide +kernel)
theorem ti_1 : Jvm.Cond.initialized RJ1 ∈ jgood := j_w_good (p := 211) (by decide +kernel) (by decide +kernel)
theorem ti_3 : Jvm.Cond.initialized RJ3 ∈ jgood := j_w_good (p := 212) (by decide +kernel) (by decide +kernel)
set_option maxRecDepth 100000 in
theorem tx_byte : ∀ t ∈ jTT.2, ∀ b ∈ t, ((b &&& 255).toUInt32 % 65536).toInt32 = b &&& 255 ∧ narrow .char (.int (b &&& 255)) = .int (b &&& 255) := by decide +kernel
set_option maxRecDepth 100000 in
theorem tx_len : ∀ t ∈ jTT.2, Int32.ofNat t.length >>> ((0 : Int32) &&& 31) = Int32.ofNat t.length ∧ t.length < 1000 := by decide +kernel
set_option maxRecDepth 100000 in
theorem tx_ch0 : ∀ b ∈ (List.range 128).map nI, ∀ m ∈ List.range 256, (b = (nI m).toInt8.toInt32 ↔ b &&& 255 = nI m) := by decide +kernel
set_option maxRecDepth 100000 in
theorem tx_asc : ∀ t ∈ jTT.2, ∀ b ∈ t, b ∈ (List.range 128).map nI := by decide +kernel
abbrev trm (f : Nat) : Room := { frames := f, cells := 0, slots := 0, locals := 42 * f }
theorem j_getD_mem {l : List Int32} {k : Nat} (h : k < l.length) : l.getD k 0 ∈ l := by
  rw [List.getD_eq_getElem?_getD, List.getElem?_eq_getElem h]
  exact List.getElem_mem _
section TXT
variable {p : Program} {l : Launch} {e : Env} {R : Room} {s : State} {m : MethodId} {args : Array Value} {below : List Frame} {meth : Method} {c : Code} {H : Heap} {locs : List Loc} {cells slots : Nat} {Q : State → Prop}
/-- behind a call that answers nothing -/
theorem j_askedV {pc : Nat} {ls : Array Slot} {st0 rest : List Value} {a : Array Value} (hr : va_Run p l e R s m args below meth c H locs cells slots 0 0 (F0 m pc ls st0) rest (va_Sv (fun _ => True) a) (fun _ => False))
    (kk : W p l e R s m args below meth c H locs cells slots Q (F0 m (pc + 3) ls rest)) : W p l e R s m args below meth c H locs cells slots Q (F0 m pc ls st0) := by
  intro T hT X
  obtain ⟨v', st₀, t, T', L, h0, X', hL, e1, e2, ⟨hv, -, hh⟩, st⟩ := hr T hT X
  cases hv
  cases L with
  | cons q L => exact (hL q List.mem_cons_self).elim
  | nil =>
    rw [List.append_nil] at X'
    obtain ⟨t2, a1, b1⟩ := kk T' (by rw [e1, hh, h0]) X'
    exact ⟨t2, st t2 a1, b1⟩
end TXT
theorem va_blindT {as : List Value} : FrameBlind (va_Pc as (fun _ => True)) := by
  intro a U g mk h
  exact ⟨h.1, trivial⟩
theorem ct_ck3 (l : Launch) (i n : Int32) (v : Value) (hv : v.category = 1) (h0 : ¬ i < 0) (h1 : i < n) : Met l yJ3_checkIndex_8e157 tw_J3_checkIndex_8e157 (trm 1) (va_Pc [.int i, .int n, v] (fun _ => True)) (vp_Si (fun r => r = i)) 0 0 (fun _ => False) := by
  have hc := lv_cat v
  refine Met.ofW (cc := cJ3_checkIndex_8e157) (maxL := 3) (ret := (some .int)) (by decide) rfl ?_
  intro p e s m args below meth c s₁ B hml hv
  obtain ⟨rfl, hT⟩ := hv
  have hx := B.exec
  have hb := B.bytes
  have hr := B.returns
  have hlk := B.notSynchronized
  have hts0 := atoms_spec (ws := tw_J3_checkIndex_8e157) B.pre
  have hts : ∀ w ∈ jgood, w.before _ s = true := fun w hw => hts0 w (List.mem_cons_of_mem _ hw)
  have hown : s.vm.findClass yJ3_checkIndex_8e157.cls = some m.cls := findClass_of_methodNamed B.named
  have hl := lv_entry ([.int i, .int n, v]) (n := 3) (Nat.le_of_eq (by rw [lg_sl_cons, lg_sl_cons, lg_sl_cons, hv]; rfl))
  rw [lg_entry_eq]
  generalize (lg_sl ([.int i, .int n, v]) ++ List.replicate (3 - (lg_sl ([.int i, .int n, v])).length) Slot.unset).toArray = ls at hl ⊢
  have hl : lv_has ls 3 [(0, .int i), (1, .int n)] := lv_sub hl [0, 1] rfl
  refine lv_iload_n hx hb dJ3_checkIndex_8e157_0 rfl (lv_at hl 0 rfl) ?_
  refine lv_if_lt (tgt := 9) hx hb dJ3_checkIndex_8e157_1 (by decide) (fun q => absurd q h0) (fun _ => ?_)
  refine lv_iload_n hx hb dJ3_checkIndex_8e157_4 rfl (lv_at hl 0 rfl) ?_
  refine lv_iload_n hx hb dJ3_checkIndex_8e157_5 rfl (lv_at hl 1 rfl) ?_
  refine lv_icmp_lt (tgt := 16) hx hb dJ3_checkIndex_8e157_6 (by decide) (fun _ => ?_) (fun q => absurd h1 q)
  refine lv_iload_n hx hb dJ3_checkIndex_8e157_16 rfl (lv_at hl 0 rfl) ?_
  exact W.iret hx hb hr (fun t ht _ => ⟨i, rfl, rfl, ht⟩) (fun _ q => absurd q List.not_mem_nil) dJ3_checkIndex_8e157_17 hlk
theorem ct_chk (l : Launch) (τ : Nat → Nat) (A : Nat → Prop) (i n : Int32) (h0 : ¬ i < 0) (h1 : i < n) : Met l yJ0_checkIndex_df160 tw_J0_checkIndex_df160 (trm 2) (va_Pc [.int i, .int n] (fun U => jTxt τ A U U.heap)) (va_Sv (fun _ => True)) 0 0 (fun _ => False) := by
  refine Met.ofW (cc := cJ0_checkIndex_df160) (maxL := 2) (ret := none) (by decide) rfl ?_
  intro p e s m args below meth c s₁ B hml hv
  obtain ⟨rfl, hT⟩ := hv
  have hx := B.exec
  have hb := B.bytes
  have hr := B.returns
  have hlk := B.notSynchronized
  have hts0 := atoms_spec (ws := tw_J0_checkIndex_df160) B.pre
  have hts : ∀ w ∈ jgood, w.before _ s = true := fun w hw => hts0 w (List.mem_cons_of_mem _ hw)
  have hown : s.vm.findClass yJ0_checkIndex_df160.cls = some m.cls := findClass_of_methodNamed B.named
  have hl := lv_entry ([.int i, .int n]) (n := 2) (Nat.le_of_ble_eq_true rfl)
  rw [lg_entry_eq]
  generalize (lg_sl ([.int i, .int n]) ++ List.replicate (2 - (lg_sl ([.int i, .int n])).length) Slot.unset).toArray = ls at hl ⊢
  have hl : lv_has ls 2 [(0, .int i), (1, .int n)] := hl
  refine lv_iload_n hx hb dJ0_checkIndex_df160_0 rfl (lv_at hl 0 rfl) ?_
  refine lv_iload_n hx hb dJ0_checkIndex_df160_1 rfl (lv_at hl 1 rfl) ?_
  have key : ∀ v : Value, v.category = 1 → va_Z "jdk/internal/util/Preconditions" "SIOOBE_FORMATTER" "Ljava/util/function/BiFunction;" v A s s.heap → W p l e (trm 2) s m ([Value.int i, Value.int n] : List Value).toArray below meth c s.heap [] 0 0 (MQ below (va_Sv (fun _ => True)) ([Value.int i, Value.int n] : List Value).toArray s 0 0 (fun _ => False)) (F0 m 2 ls [.int n, .int i]) := by
    intro v hvc hZ
    refine va_gets hx hb hZ va_S.rf hown (hts _ tf_sio) (fun _ h => h) dJ0_checkIndex_df160_2 ?_
    refine j_asked (va_runS (As := [.int i, .int n, v]) (rest := []) (n := 3) ⟨hx, hb, hml, hown, hts⟩ (ct_ck3 l i n v hvc h0 h1) ⟨callB_of 3 hts (j_good_cons tc_J3_checkIndex_8e157) rfl rfl rfl (hts _ ti_3) (hts _ tl_ck3) ⟨by decide, by decide, by decide +kernel⟩ ⟨by decide, by decide⟩, hts _ ts_J3_checkIndex_8e157⟩ ⟨va_blindT, fun U hU hW => ⟨rfl, trivial⟩⟩ rfl rfl hl.1 rfl (lv_room (Nat.le_of_ble_eq_true rfl)) dJ0_checkIndex_df160_5 ⟨Nat.le_refl _, Nat.le_refl _⟩) ?_
    refine lv_pop hx hb dJ0_checkIndex_df160_8 rfl ?_
    exact W.vret hx hb hr (fun t ht _ => ⟨rfl, trivial, ht⟩) (fun _ q => absurd q List.not_mem_nil) dJ0_checkIndex_df160_9 hlk
  rcases hT.2.2 with hZ | ⟨t, hZ⟩
  · exact key _ rfl hZ
  · exact key _ rfl hZ
theorem ct_lch (l : Launch) (τ : Nat → Nat) (A : Nat → Prop) {j : Nat} (hj : j < 14) (i : Int32) (hi : j_in i (jTT.2.getD j []).length = true) : Met l yJ1_charAt_3b067 tw_J1_charAt_3b067 (trm 3) (va_Pc [.ref (τ (3000 + j)), .int i] (fun U => jTxt τ A U U.heap)) (vp_Si (fun r => r = (jTT.2.getD j []).getD i.toNatClampNeg 0 &&& 255)) 0 0 (fun _ => False) := by
  have hmem : jTT.2.getD j [] ∈ jTT.2 := by rw [List.getD_eq_getElem?_getD, List.getElem?_eq_getElem (show j < jTT.2.length from hj)]; exact List.getElem_mem _
  have hin := j_in_vp hi
  have h0 : ¬ i < 0 := fun q => hin (Or.inl q)
  have h2 : i.toNatClampNeg < (jTT.2.getD j []).length := Nat.not_le.mp (fun q => hin (Or.inr q))
  have hlt := (tx_len _ hmem).2
  have h1 : i < Int32.ofNat (jTT.2.getD j []).length := by
    obtain ⟨n, hn, rfl⟩ := nI_of h0
    rw [nI_clamp hn] at h2
    exact nI_lt h2 (by omega)
  have hby : (jTT.2.getD j []).getD i.toNatClampNeg 0 ∈ jTT.2.getD j [] := j_getD_mem h2
  obtain ⟨b1, b2⟩ := tx_byte _ hmem _ hby
  refine Met.ofW (cc := cJ1_charAt_3b067) (maxL := 2) (ret := (some .char)) (by decide) rfl ?_
  intro p e s m args below meth c s₁ B hml hv
  obtain ⟨rfl, hT⟩ := hv
  have hx := B.exec
  have hb := B.bytes
  have hr := B.returns
  have hlk := B.notSynchronized
  have hts0 := atoms_spec (ws := tw_J1_charAt_3b067) B.pre
  have hts : ∀ w ∈ jgood, w.before _ s = true := fun w hw => hts0 w (List.mem_cons_of_mem _ hw)
  have hown : s.vm.findClass yJ1_charAt_3b067.cls = some m.cls := findClass_of_methodNamed B.named
  have hl := lv_entry ([.ref (τ (3000 + j)), .int i]) (n := 2) (Nat.le_of_ble_eq_true rfl)
  rw [lg_entry_eq]
  generalize (lg_sl ([.ref (τ (3000 + j)), .int i]) ++ List.replicate (2 - (lg_sl ([.ref (τ (3000 + j)), .int i])).length) Slot.unset).toArray = ls at hl ⊢
  have hl : lv_has ls 2 [(0, .ref (τ (3000 + j))), (1, .int i)] := hl
  have hA := (hT.1 j hj).2.2.2
  refine lv_iload_n hx hb dJ1_charAt_3b067_0 rfl (lv_at hl 1 rfl) ?_
  refine lv_aload_n hx hb dJ1_charAt_3b067_1 rfl (lv_at hl 0 rfl) ?_
  refine va_tlen hx hb hA va_S.rf rfl dJ1_charAt_3b067_2 ?_
  refine j_askedV (va_runS (As := [.int i, .int (Int32.ofNat (jTT.2.getD j []).length)]) (rest := []) (n := 2) ⟨hx, hb, hml, hown, hts⟩ (ct_chk l τ A i _ h0 h1) ⟨callB_of 2 hts (j_good_cons tc_J0_checkIndex_df160) rfl rfl rfl (hts _ ti_0) (hts _ tl_chk) ⟨by decide, by decide, by decide +kernel⟩ ⟨by decide, by decide⟩, hts _ ts_J0_checkIndex_df160⟩ ⟨jTxt_blind, fun U hU hW => ⟨rfl, by dsimp only; rw [hU]; exact hT.moved hW.alike⟩⟩ rfl rfl hl.1 rfl (lv_room (Nat.le_of_ble_eq_true rfl)) dJ1_charAt_3b067_3 ⟨Nat.le_refl _, Nat.le_refl _⟩) ?_
  refine lv_aload_n hx hb dJ1_charAt_3b067_6 rfl (lv_at hl 0 rfl) ?_
  refine lv_iload_n hx hb dJ1_charAt_3b067_7 rfl (lv_at hl 1 rfl) ?_
  refine va_tb hx hb hA va_S.rf hin rfl dJ1_charAt_3b067_8 ?_
  refine lv_sipush (v := 255) hx hb dJ1_charAt_3b067_9 (by decide) ?_
  refine lv_iand hx hb dJ1_charAt_3b067_12 ?_
  refine lv_i2c hx hb dJ1_charAt_3b067_13 b1 ?_
  exact W.zret hx hb hr b2 (fun t ht _ => ⟨_, rfl, rfl, ht⟩) (fun _ q => absurd q List.not_mem_nil) dJ1_charAt_3b067_14 hlk
theorem ct_lat (l : Launch) (τ : Nat → Nat) (A : Nat → Prop) {j : Nat} (hj : j < 14) : Met l yJ0_isLatin1_aae02 tw_J0_isLatin1_aae02 (trm 1) (va_Pc [.ref (τ (2000 + j))] (fun U => jTxt τ A U U.heap)) (vp_Si (fun r => r = 1)) 0 0 (fun _ => False) := by
  refine Met.ofW (cc := cJ0_isLatin1_aae02) (maxL := 1) (ret := (some .boolean)) (by decide) rfl ?_
  intro p e s m args below meth c s₁ B hml hv
  obtain ⟨rfl, hT⟩ := hv
  have hx := B.exec
  have hb := B.bytes
  have hr := B.returns
  have hlk := B.notSynchronized
  have hts0 := atoms_spec (ws := tw_J0_isLatin1_aae02) B.pre
  have hts : ∀ w ∈ jgood, w.before _ s = true := fun w hw => hts0 w (List.mem_cons_of_mem _ hw)
  have hown : s.vm.findClass yJ0_isLatin1_aae02.cls = some m.cls := findClass_of_methodNamed B.named
  have hl := lv_entry ([.ref (τ (2000 + j))]) (n := 1) (Nat.le_of_ble_eq_true rfl)
  rw [lg_entry_eq]
  generalize (lg_sl ([.ref (τ (2000 + j))]) ++ List.replicate (1 - (lg_sl ([.ref (τ (2000 + j))])).length) Slot.unset).toArray = ls at hl ⊢
  have hl : lv_has ls 1 [(0, .ref (τ (2000 + j)))] := hl
  refine va_gets hx hb hT.2.1 va_S.rf hown (hts _ tf_cmp) (fun _ h => h) dJ0_isLatin1_aae02_0 ?_
  refine lv_if_eq (tgt := 17) hx hb dJ0_isLatin1_aae02_3 (by decide) (fun q => absurd q (by decide)) (fun _ => ?_)
  refine lv_aload_n hx hb dJ0_isLatin1_aae02_6 rfl (lv_at hl 0 rfl) ?_
  refine vk_getf hx hb (hT.1 j hj).2.1 va_S.rf hown (hts _ tf_cod) (fun _ h => h) dJ0_isLatin1_aae02_7 ?_
  refine lv_if_ne (tgt := 17) hx hb dJ0_isLatin1_aae02_10 (by decide) (fun q => absurd rfl q) (fun _ => ?_)
  refine lv_iconst (v := 1) hx hb dJ0_isLatin1_aae02_13 (by decide) ?_
  refine lv_goto (tgt := 18) hx hb dJ0_isLatin1_aae02_14 (by decide) ?_
  exact W.zret hx hb hr rfl (fun t ht _ => ⟨_, rfl, rfl, ht⟩) (fun _ q => absurd q List.not_mem_nil) dJ0_isLatin1_aae02_18 hlk
theorem ct_cod (l : Launch) (τ : Nat → Nat) (A : Nat → Prop) {j : Nat} (hj : j < 14) : Met l yJ0_coder_7d493 tw_J0_coder_7d493 (trm 1) (va_Pc [.ref (τ (2000 + j))] (fun U => jTxt τ A U U.heap)) (vp_Si (fun r => r = 0)) 0 0 (fun _ => False) := by
  refine Met.ofW (cc := cJ0_coder_7d493) (maxL := 1) (ret := (some .byte)) (by decide) rfl ?_
  intro p e s m args below meth c s₁ B hml hv
  obtain ⟨rfl, hT⟩ := hv
  have hx := B.exec
  have hb := B.bytes
  have hr := B.returns
  have hlk := B.notSynchronized
  have hts0 := atoms_spec (ws := tw_J0_coder_7d493) B.pre
  have hts : ∀ w ∈ jgood, w.before _ s = true := fun w hw => hts0 w (List.mem_cons_of_mem _ hw)
  have hown : s.vm.findClass yJ0_coder_7d493.cls = some m.cls := findClass_of_methodNamed B.named
  have hl := lv_entry ([.ref (τ (2000 + j))]) (n := 1) (Nat.le_of_ble_eq_true rfl)
  rw [lg_entry_eq]
  generalize (lg_sl ([.ref (τ (2000 + j))]) ++ List.replicate (1 - (lg_sl ([.ref (τ (2000 + j))])).length) Slot.unset).toArray = ls at hl ⊢
  have hl : lv_has ls 1 [(0, .ref (τ (2000 + j)))] := hl
  refine va_gets hx hb hT.2.1 va_S.rf hown (hts _ tf_cmp) (fun _ h => h) dJ0_coder_7d493_0 ?_
  refine lv_if_eq (tgt := 13) hx hb dJ0_coder_7d493_3 (by decide) (fun q => absurd q (by decide)) (fun _ => ?_)
  refine lv_aload_n hx hb dJ0_coder_7d493_6 rfl (lv_at hl 0 rfl) ?_
  refine vk_getf hx hb (hT.1 j hj).2.1 va_S.rf hown (hts _ tf_cod) (fun _ h => h) dJ0_coder_7d493_7 ?_
  refine lv_goto (tgt := 14) hx hb dJ0_coder_7d493_10 (by decide) ?_
  exact W.zret hx hb hr rfl (fun t ht _ => ⟨_, rfl, rfl, ht⟩) (fun _ q => absurd q List.not_mem_nil) dJ0_coder_7d493_14 hlk
theorem ct_len (l : Launch) (τ : Nat → Nat) (A : Nat → Prop) {j : Nat} (hj : j < 14) {f : Nat} (hf : 2 ≤ f) : Met l yJ0_length_8abf5 tw_J0_length_8abf5 (trm f) (va_Pc [.ref (τ (2000 + j))] (fun U => jTxt τ A U U.heap)) (vp_Si (fun r => r = Int32.ofNat (jTT.2.getD j []).length)) 0 0 (fun _ => False) := by
  have hmem : jTT.2.getD j [] ∈ jTT.2 := by rw [List.getD_eq_getElem?_getD, List.getElem?_eq_getElem (show j < jTT.2.length from hj)]; exact List.getElem_mem _
  refine Met.ofW (cc := cJ0_length_8abf5) (maxL := 1) (ret := (some .int)) (by decide) rfl ?_
  intro p e s m args below meth c s₁ B hml hv
  obtain ⟨rfl, hT⟩ := hv
  have hx := B.exec
  have hb := B.bytes
  have hr := B.returns
  have hlk := B.notSynchronized
  have hts0 := atoms_spec (ws := tw_J0_length_8abf5) B.pre
  have hts : ∀ w ∈ jgood, w.before _ s = true := fun w hw => hts0 w (List.mem_cons_of_mem _ hw)
  have hown : s.vm.findClass yJ0_length_8abf5.cls = some m.cls := findClass_of_methodNamed B.named
  have hl := lv_entry ([.ref (τ (2000 + j))]) (n := 1) (Nat.le_of_ble_eq_true rfl)
  rw [lg_entry_eq]
  generalize (lg_sl ([.ref (τ (2000 + j))]) ++ List.replicate (1 - (lg_sl ([.ref (τ (2000 + j))])).length) Slot.unset).toArray = ls at hl ⊢
  have hl : lv_has ls 1 [(0, .ref (τ (2000 + j)))] := hl
  refine lv_aload_n hx hb dJ0_length_8abf5_0 rfl (lv_at hl 0 rfl) ?_
  refine vk_getf hx hb (hT.1 j hj).2.2.1 va_S.rf hown (hts _ tf_val) (fun _ h => h) dJ0_length_8abf5_1 ?_
  refine va_tlen hx hb (hT.1 j hj).2.2.2 va_S.rf rfl dJ0_length_8abf5_4 ?_
  refine lv_aload_n hx hb dJ0_length_8abf5_5 rfl (lv_at hl 0 rfl) ?_
  refine j_asked (va_runV (C := RJ0) (b := τ (2000 + j)) (As := []) (rest := [.int (Int32.ofNat (jTT.2.getD j []).length)]) (n := 0) ⟨hx, hb, hml, hown, hts⟩ (ct_cod l τ A hj) ⟨callB_of 0 hts (j_good_cons tc_J0_coder_7d493) rfl rfl rfl (hts _ ti_0) (hts _ tl_cod) ⟨by decide, by decide, by decide +kernel⟩ ⟨by show 1 + 1 ≤ f; omega, by show 8 + (1 + 11) + 42 ≤ 42 * f; omega⟩, hts _ tm_J0_coder_7d493, hts _ tq_J0_coder_7d493⟩ ⟨jTxt_blind, (by
      obtain ⟨cellB, e1, e2, e3, -⟩ := (hT.1 j hj).1
      exact ⟨cellB, e1, e2, e3⟩), fun U hU hW => ⟨rfl, by dsimp only; rw [hU]; exact hT.moved hW.alike⟩⟩ rfl rfl hl.1 rfl (lv_room (Nat.le_of_ble_eq_true rfl)) dJ0_length_8abf5_6 ⟨Nat.le_refl _, Nat.le_refl _⟩) ?_
  refine lv_ishr hx hb dJ0_length_8abf5_9 ?_
  rw [(tx_len _ hmem).1]
  exact W.iret hx hb hr (fun t ht _ => ⟨_, rfl, rfl, ht⟩) (fun _ q => absurd q List.not_mem_nil) dJ0_length_8abf5_10 hlk
theorem ct_cha (l : Launch) (τ : Nat → Nat) (A : Nat → Prop) {j : Nat} (hj : j < 14) (i : Int32) (hi : j_in i (jTT.2.getD j []).length = true) : Met l yJ0_charAt_5068e tw_J0_charAt_5068e (trm 7) (va_Pc [.ref (τ (2000 + j)), .int i] (fun U => jTxt τ A U U.heap)) (vp_Si (fun r => r = (jTT.2.getD j []).getD i.toNatClampNeg 0 &&& 255)) 0 0 (fun _ => False) := by
  have hmem : jTT.2.getD j [] ∈ jTT.2 := by rw [List.getD_eq_getElem?_getD, List.getElem?_eq_getElem (show j < jTT.2.length from hj)]; exact List.getElem_mem _
  have hin := j_in_vp hi
  have h2 : i.toNatClampNeg < (jTT.2.getD j []).length := Nat.not_le.mp (fun q => hin (Or.inr q))
  have hby : (jTT.2.getD j []).getD i.toNatClampNeg 0 ∈ jTT.2.getD j [] := j_getD_mem h2
  obtain ⟨b1, b2⟩ := tx_byte _ hmem _ hby
  refine Met.ofW (cc := cJ0_charAt_5068e) (maxL := 2) (ret := (some .char)) (by decide) rfl ?_
  intro p e s m args below meth c s₁ B hml hv
  obtain ⟨rfl, hT⟩ := hv
  have hx := B.exec
  have hb := B.bytes
  have hr := B.returns
  have hlk := B.notSynchronized
  have hts0 := atoms_spec (ws := tw_J0_charAt_5068e) B.pre
  have hts : ∀ w ∈ jgood, w.before _ s = true := fun w hw => hts0 w (List.mem_cons_of_mem _ hw)
  have hown : s.vm.findClass yJ0_charAt_5068e.cls = some m.cls := findClass_of_methodNamed B.named
  have hl := lv_entry ([.ref (τ (2000 + j)), .int i]) (n := 2) (Nat.le_of_ble_eq_true rfl)
  rw [lg_entry_eq]
  generalize (lg_sl ([.ref (τ (2000 + j)), .int i]) ++ List.replicate (2 - (lg_sl ([.ref (τ (2000 + j)), .int i])).length) Slot.unset).toArray = ls at hl ⊢
  have hl : lv_has ls 2 [(0, .ref (τ (2000 + j))), (1, .int i)] := hl
  refine lv_aload_n hx hb dJ0_charAt_5068e_0 rfl (lv_at hl 0 rfl) ?_
  refine j_asked (va_runV (C := RJ0) (b := τ (2000 + j)) (As := []) (rest := []) (n := 0) ⟨hx, hb, hml, hown, hts⟩ (ct_lat l τ A hj) ⟨callB_of 0 hts (j_good_cons tc_J0_isLatin1_aae02) rfl rfl rfl (hts _ ti_0) (hts _ tl_lat) ⟨by decide, by decide, by decide +kernel⟩ ⟨by decide, by decide⟩, hts _ tm_J0_isLatin1_aae02, hts _ tq_J0_isLatin1_aae02⟩ ⟨jTxt_blind, (by
      obtain ⟨cellB, e1, e2, e3, -⟩ := (hT.1 j hj).1
      exact ⟨cellB, e1, e2, e3⟩), fun U hU hW => ⟨rfl, by dsimp only; rw [hU]; exact hT.moved hW.alike⟩⟩ rfl rfl hl.1 rfl (lv_room (Nat.le_of_ble_eq_true rfl)) dJ0_charAt_5068e_1 ⟨Nat.le_refl _, Nat.le_refl _⟩) ?_
  refine lv_if_eq (tgt := 16) hx hb dJ0_charAt_5068e_4 (by decide) (fun q => absurd q (by decide)) (fun _ => ?_)
  refine lv_aload_n hx hb dJ0_charAt_5068e_7 rfl (lv_at hl 0 rfl) ?_
  refine vk_getf hx hb (hT.1 j hj).2.2.1 va_S.rf hown (hts _ tf_val) (fun _ h => h) dJ0_charAt_5068e_8 ?_
  refine lv_iload_n hx hb dJ0_charAt_5068e_11 rfl (lv_at hl 1 rfl) ?_
  refine j_asked (va_runS (As := [.ref (τ (3000 + j)), .int i]) (rest := []) (n := 2) ⟨hx, hb, hml, hown, hts⟩ (ct_lch l τ A hj i hi) ⟨callB_of 2 hts (j_good_cons tc_J1_charAt_3b067) rfl rfl rfl (hts _ ti_1) (hts _ tl_cha) ⟨by decide, by decide, by decide +kernel⟩ ⟨by decide, by decide⟩, hts _ ts_J1_charAt_3b067⟩ ⟨jTxt_blind, fun U hU hW => ⟨rfl, by dsimp only; rw [hU]; exact hT.moved hW.alike⟩⟩ rfl rfl hl.1 rfl (lv_room (Nat.le_of_ble_eq_true rfl)) dJ0_charAt_5068e_12 ⟨Nat.le_refl _, Nat.le_refl _⟩) ?_
  exact W.zret hx hb hr b2 (fun t ht _ => ⟨_, rfl, rfl, ht⟩) (fun _ q => absurd q List.not_mem_nil) dJ0_charAt_5068e_15 hlk
theorem ct_can (l : Launch) (τ : Nat → Nat) (A : Nat → Prop) (i : Int32) : Met l yJ1_canEncode_9a6ad tw_J1_canEncode_9a6ad (trm 1) (va_Pc [.int i] (fun U => jTxt τ A U U.heap)) (vp_Si (fun r => r = if i < 0 ∨ 255 < i then 0 else 1)) 0 0 (fun _ => False) := by
  refine Met.ofW (cc := cJ1_canEncode_9a6ad) (maxL := 1) (ret := (some .boolean)) (by decide) rfl ?_
  intro p e s m args below meth c s₁ B hml hv
  obtain ⟨rfl, hT⟩ := hv
  have hx := B.exec
  have hb := B.bytes
  have hr := B.returns
  have hlk := B.notSynchronized
  have hts0 := atoms_spec (ws := tw_J1_canEncode_9a6ad) B.pre
  have hts : ∀ w ∈ jgood, w.before _ s = true := fun w hw => hts0 w (List.mem_cons_of_mem _ hw)
  have hown : s.vm.findClass yJ1_canEncode_9a6ad.cls = some m.cls := findClass_of_methodNamed B.named
  have hl := lv_entry ([.int i]) (n := 1) (Nat.le_of_ble_eq_true rfl)
  rw [lg_entry_eq]
  generalize (lg_sl ([.int i]) ++ List.replicate (1 - (lg_sl ([.int i])).length) Slot.unset).toArray = ls at hl ⊢
  have hl : lv_has ls 1 [(0, .int i)] := hl
  refine lv_iload_n hx hb dJ1_canEncode_9a6ad_0 rfl (lv_at hl 0 rfl) ?_
  refine lv_if_lt (tgt := 15) hx hb dJ1_canEncode_9a6ad_1 (by decide) (fun q => ?_) (fun q => ?_)
  · refine lv_iconst (v := 0) hx hb dJ1_canEncode_9a6ad_15 (by decide) ?_
    exact W.zret hx hb hr rfl (fun t ht _ => ⟨_, rfl, by rw [if_pos (Or.inl q)], ht⟩) (fun _ q => absurd q List.not_mem_nil) dJ1_canEncode_9a6ad_16 hlk
  · refine lv_iload_n hx hb dJ1_canEncode_9a6ad_4 rfl (lv_at hl 0 rfl) ?_
    refine lv_sipush (v := 255) hx hb dJ1_canEncode_9a6ad_5 (by decide) ?_
    refine lv_icmp_gt (tgt := 15) hx hb dJ1_canEncode_9a6ad_8 (by decide) (fun q2 => ?_) (fun q2 => ?_)
    · refine lv_iconst (v := 0) hx hb dJ1_canEncode_9a6ad_15 (by decide) ?_
      exact W.zret hx hb hr rfl (fun t ht _ => ⟨_, rfl, by rw [if_pos (Or.inr q2)], ht⟩) (fun _ q => absurd q List.not_mem_nil) dJ1_canEncode_9a6ad_16 hlk
    · refine lv_iconst (v := 1) hx hb dJ1_canEncode_9a6ad_11 (by decide) ?_
      refine lv_goto (tgt := 16) hx hb dJ1_canEncode_9a6ad_12 (by decide) ?_
      exact W.zret hx hb hr rfl (fun t ht _ => ⟨_, rfl, by rw [if_neg (fun z => z.elim q q2)], ht⟩) (fun _ q => absurd q List.not_mem_nil) dJ1_canEncode_9a6ad_16 hlk
theorem tx_eq {t : List Int32} (ht : t ∈ jTT.2) {b c : Int32} (hb : b ∈ t) (h0 : ¬ c < 0) (h1 : ¬ 255 < c) : b = c.toInt8.toInt32 ↔ b &&& 255 = c := by
  obtain ⟨n, hn, rfl⟩ := nI_of h0
  have h2 : n < 256 := by
    apply Classical.byContradiction
    intro q
    exact h1 (show nI 255 < nI n from nI_lt (by omega) hn)
  exact tx_ch0 b (tx_asc t ht b hb) n (List.mem_range.mpr h2)
theorem j_ix_drop (c : Int32) (t : List Int32) : ∀ (k : Nat), k < t.length → j_ix c (t.drop k) k = if t.getD k 0 &&& 255 = c then nI k else j_ix c (t.drop (k + 1)) (k + 1) := by
  intro k hk
  rw [List.drop_eq_getElem_cons hk, j_ix, List.getD_eq_getElem?_getD, List.getElem?_eq_getElem hk]
  rfl
theorem j_ix_out (c : Int32) {t0 : List Int32} (h0 : t0 ∈ jTT.2) (h : c < 0 ∨ 255 < c) : ∀ (t : List Int32) (k : Nat), (∀ b ∈ t, b ∈ t0) → j_ix c t k = -1 := by
  intro t
  induction t with
  | nil => intro k _; rfl
  | cons b r ih =>
    intro k hb
    rw [j_ix, if_neg, ih _ (fun x hx => hb x (List.mem_cons_of_mem _ hx))]
    intro q
    have hb2 := tx_asc t0 h0 b (hb b List.mem_cons_self)
    have : ∀ b ∈ (List.range 128).map nI, ¬ (b &&& 255 < 0) ∧ ¬ 255 < b &&& 255 := by decide +kernel
    have h2 := this b hb2
    rw [q] at h2
    exact h.elim h2.1 h2.2
set_option maxHeartbeats 1000000 in
theorem ct_ixc (l : Launch) (τ : Nat → Nat) (A : Nat → Prop) {j : Nat} (hj : j < 14) (i : Int32) (h0 : ¬ i < 0) (h1 : ¬ 255 < i) : Met l yJ1_indexOfChar_4cfef tw_J1_indexOfChar_4cfef (trm 1) (va_Pc [.ref (τ (3000 + j)), .int i, .int 0, .int (Int32.ofNat (jTT.2.getD j []).length)] (fun U => jTxt τ A U U.heap)) (vp_Si (fun r => r = j_ix i (jTT.2.getD j []) 0)) 0 0 (fun _ => False) := by
  have hmem : jTT.2.getD j [] ∈ jTT.2 := by rw [List.getD_eq_getElem?_getD, List.getElem?_eq_getElem (show j < jTT.2.length from hj)]; exact List.getElem_mem _
  have hlt := (tx_len _ hmem).2
  refine Met.ofW (cc := cJ1_indexOfChar_4cfef) (maxL := 6) (ret := (some .int)) (by decide) rfl ?_
  intro p e s m args below meth c s₁ B hml hv
  obtain ⟨rfl, hT⟩ := hv
  have hx := B.exec
  have hb := B.bytes
  have hr := B.returns
  have hlk := B.notSynchronized
  have hts0 := atoms_spec (ws := tw_J1_indexOfChar_4cfef) B.pre
  have hts : ∀ w ∈ jgood, w.before _ s = true := fun w hw => hts0 w (List.mem_cons_of_mem _ hw)
  have hown : s.vm.findClass yJ1_indexOfChar_4cfef.cls = some m.cls := findClass_of_methodNamed B.named
  have hl := lv_entry ([.ref (τ (3000 + j)), .int i, .int 0, .int (Int32.ofNat (jTT.2.getD j []).length)]) (n := 6) (Nat.le_of_ble_eq_true rfl)
  rw [lg_entry_eq]
  generalize (lg_sl ([.ref (τ (3000 + j)), .int i, .int 0, .int (Int32.ofNat (jTT.2.getD j []).length)]) ++ List.replicate (6 - (lg_sl ([.ref (τ (3000 + j)), .int i, .int 0, .int (Int32.ofNat (jTT.2.getD j []).length)])).length) Slot.unset).toArray = ls at hl ⊢
  have hl : lv_has ls 6 [(0, .ref (τ (3000 + j))), (1, .int i), (2, .int 0), (3, .int (Int32.ofNat (jTT.2.getD j []).length))] := hl
  have hA := (hT.1 j hj).2.2.2
  generalize hn : (jTT.2.getD j []).length = n at hA hlt hl ⊢
  generalize ht : jTT.2.getD j [] = t at hA hmem hn ⊢
  refine lv_iload_n hx hb dJ1_indexOfChar_4cfef_0 rfl (lv_at hl 1 rfl) ?_
  refine lv_i2b (v := i.toInt8.toInt32) hx hb dJ1_indexOfChar_4cfef_1 rfl ?_
  refine lv_istore (lv' := [(4, .int i.toInt8.toInt32), (0, .ref (τ (3000 + j))), (1, .int i), (2, .int 0), (3, .int (Int32.ofNat n))]) hx hb dJ1_indexOfChar_4cfef_2 hl (by decide) rfl (fun ls hl => ?_)
  refine lv_iload_n hx hb dJ1_indexOfChar_4cfef_4 rfl (lv_at hl 3 rfl) ?_
  refine lv_istore (lv' := [(5, .int 0), (4, .int i.toInt8.toInt32), (0, .ref (τ (3000 + j))), (1, .int i), (2, .int 0), (3, .int (Int32.ofNat n))]) hx hb dJ1_indexOfChar_4cfef_5 hl (by decide) rfl (fun ls hl => ?_)
  have loop : ∀ (mz k : Nat) (ls : Array Slot), n - k ≤ mz → k ≤ n → j_ix i (t.drop k) k = j_ix i t 0 → lv_has ls 6 [(5, .int (nI k)), (4, .int i.toInt8.toInt32), (0, .ref (τ (3000 + j))), (3, .int (Int32.ofNat n))] → W p l e (trm 1) s m ([Value.ref (τ (3000 + j)), Value.int i, Value.int 0, Value.int (Int32.ofNat n)] : List Value).toArray below meth c s.heap [] 0 0 (MQ below (vp_Si (fun r => r = j_ix i t 0)) ([Value.ref (τ (3000 + j)), Value.int i, Value.int 0, Value.int (Int32.ofNat n)] : List Value).toArray s 0 0 (fun _ => False)) (F0 m 7 ls []) := by
    intro mz
    induction mz with
    | zero =>
      intro k ls hm hk hz hl
      have hkn : k = n := by omega
      subst hkn
      refine lv_iload hx hb dJ1_indexOfChar_4cfef_7 (lv_at hl 0 rfl) ?_
      refine lv_iload_n hx hb dJ1_indexOfChar_4cfef_9 rfl (lv_at hl 3 rfl) ?_
      refine lv_icmp_ge (tgt := 31) hx hb dJ1_indexOfChar_4cfef_10 (by decide) (fun _ => ?_) (fun q => absurd (Int32.le_refl _) q)
      refine lv_iconst (v := -1) hx hb dJ1_indexOfChar_4cfef_31 (by decide) ?_
      refine W.iret hx hb hr (fun t' ht' _ => ⟨_, rfl, ?_, ht'⟩) (fun _ q => absurd q List.not_mem_nil) dJ1_indexOfChar_4cfef_32 hlk
      rw [← hz, List.drop_eq_nil_of_le (by omega)]
      rfl
    | succ mz ih =>
      intro k ls hm hk hz hl
      refine lv_iload hx hb dJ1_indexOfChar_4cfef_7 (lv_at hl 0 rfl) ?_
      refine lv_iload_n hx hb dJ1_indexOfChar_4cfef_9 rfl (lv_at hl 3 rfl) ?_
      refine lv_icmp_ge (tgt := 31) hx hb dJ1_indexOfChar_4cfef_10 (by decide) (fun q => ?_) (fun q => ?_)
      · refine lv_iconst (v := -1) hx hb dJ1_indexOfChar_4cfef_31 (by decide) ?_
        refine W.iret hx hb hr (fun t' ht' _ => ⟨_, rfl, ?_, ht'⟩) (fun _ q => absurd q List.not_mem_nil) dJ1_indexOfChar_4cfef_32 hlk
        have hkn : n ≤ k := by
          apply Classical.byContradiction
          intro q2
          exact nI_ge (a := k) (b := n) (by omega) (by omega) q
        rw [← hz, List.drop_eq_nil_of_le (by omega)]
        rfl
      · have hkn : k < n := by
          apply Classical.byContradiction
          intro q2
          exact q (nI_le (by omega) (by omega))
        refine lv_aload_n hx hb dJ1_indexOfChar_4cfef_13 rfl (lv_at hl 2 rfl) ?_
        refine lv_iload hx hb dJ1_indexOfChar_4cfef_14 (lv_at hl 0 rfl) ?_
        refine va_tb hx hb hA va_S.rf (nI_in hkn (by omega)) rfl dJ1_indexOfChar_4cfef_16 ?_
        rw [nI_clamp (by omega)]
        refine lv_iload hx hb dJ1_indexOfChar_4cfef_17 (lv_at hl 1 rfl) ?_
        have hbm : t.getD k 0 ∈ t := by rw [List.getD_eq_getElem?_getD, List.getElem?_eq_getElem (by omega)]; exact List.getElem_mem _
        have hdr := j_ix_drop i t k (by omega)
        refine lv_icmp_ne (tgt := 25) hx hb dJ1_indexOfChar_4cfef_19 (by decide) (fun q2 => ?_) (fun q2 => ?_)
        · refine lv_iinc (v := nI (k + 1)) (lv' := [(5, .int (nI (k + 1))), (4, .int i.toInt8.toInt32), (0, .ref (τ (3000 + j))), (3, .int (Int32.ofNat n))]) hx hb dJ1_indexOfChar_4cfef_25 hl (k := 0) rfl (nI_1 k) (by decide) rfl (fun ls hl => ?_)
          refine lv_goto (tgt := 7) hx hb dJ1_indexOfChar_4cfef_28 (by decide) ?_
          refine ih (k + 1) ls (by omega) (by omega) ?_ hl
          rw [← hz, hdr, if_neg (fun z => q2 ((tx_eq hmem hbm h0 h1).mpr z))]
        · refine lv_iload hx hb dJ1_indexOfChar_4cfef_22 (lv_at hl 0 rfl) ?_
          refine W.iret hx hb hr (fun t' ht' _ => ⟨_, rfl, ?_, ht'⟩) (fun _ q => absurd q List.not_mem_nil) dJ1_indexOfChar_4cfef_24 hlk
          rw [← hz, hdr, if_pos ((tx_eq hmem hbm h0 h1).mp q2)]
  exact loop n 0 ls (by omega) (Nat.zero_le _) rfl (lv_sub hl [0, 1, 2, 5] rfl)
theorem ct_ixl (l : Launch) (τ : Nat → Nat) (A : Nat → Prop) {j : Nat} (hj : j < 14) (i : Int32) : Met l yJ1_indexOf_4cfef tw_J1_indexOf_4cfef (trm 2) (va_Pc [.ref (τ (3000 + j)), .int i, .int 0, .int (Int32.ofNat (jTT.2.getD j []).length)] (fun U => jTxt τ A U U.heap)) (vp_Si (fun r => r = j_ix i (jTT.2.getD j []) 0)) 0 0 (fun _ => False) := by
  have hmem : jTT.2.getD j [] ∈ jTT.2 := by rw [List.getD_eq_getElem?_getD, List.getElem?_eq_getElem (show j < jTT.2.length from hj)]; exact List.getElem_mem _
  have hlt := (tx_len _ hmem).2
  refine Met.ofW (cc := cJ1_indexOf_4cfef) (maxL := 4) (ret := (some .int)) (by decide) rfl ?_
  intro p e s m args below meth c s₁ B hml hv
  obtain ⟨rfl, hT⟩ := hv
  have hx := B.exec
  have hb := B.bytes
  have hr := B.returns
  have hlk := B.notSynchronized
  have hts0 := atoms_spec (ws := tw_J1_indexOf_4cfef) B.pre
  have hts : ∀ w ∈ jgood, w.before _ s = true := fun w hw => hts0 w (List.mem_cons_of_mem _ hw)
  have hown : s.vm.findClass yJ1_indexOf_4cfef.cls = some m.cls := findClass_of_methodNamed B.named
  have hl := lv_entry ([.ref (τ (3000 + j)), .int i, .int 0, .int (Int32.ofNat (jTT.2.getD j []).length)]) (n := 4) (Nat.le_of_ble_eq_true rfl)
  rw [lg_entry_eq]
  generalize (lg_sl ([.ref (τ (3000 + j)), .int i, .int 0, .int (Int32.ofNat (jTT.2.getD j []).length)]) ++ List.replicate (4 - (lg_sl ([.ref (τ (3000 + j)), .int i, .int 0, .int (Int32.ofNat (jTT.2.getD j []).length)])).length) Slot.unset).toArray = ls at hl ⊢
  have hl : lv_has ls 4 [(0, .ref (τ (3000 + j))), (1, .int i), (2, .int 0), (3, .int (Int32.ofNat (jTT.2.getD j []).length))] := hl
  have hA := (hT.1 j hj).2.2.2
  refine lv_iload_n hx hb dJ1_indexOf_4cfef_0 rfl (lv_at hl 1 rfl) ?_
  refine j_asked (va_runS (As := [.int i]) (rest := []) (n := 1) ⟨hx, hb, hml, hown, hts⟩ (ct_can l τ A i) ⟨callB_of 1 hts (j_good_cons tc_J1_canEncode_9a6ad) rfl rfl rfl (hts _ ti_1) (hts _ tl_can) ⟨by decide, by decide, by decide +kernel⟩ ⟨by decide, by decide⟩, hts _ ts_J1_canEncode_9a6ad⟩ ⟨jTxt_blind, fun U hU hW => ⟨rfl, by dsimp only; rw [hU]; exact hT.moved hW.alike⟩⟩ rfl rfl hl.1 rfl (lv_room (Nat.le_of_ble_eq_true rfl)) dJ1_indexOf_4cfef_1 ⟨Nat.le_refl _, Nat.le_refl _⟩) ?_
  refine lv_if_ne (tgt := 9) hx hb dJ1_indexOf_4cfef_4 (by decide) (fun q => ?_) (fun q => ?_)
  · have hi : ¬ (i < 0 ∨ 255 < i) := fun z => q (by rw [if_pos z])
    have h0 : ¬ i < 0 := fun z => hi (Or.inl z)
    have h1 : ¬ 255 < i := fun z => hi (Or.inr z)
    refine lv_iload_n hx hb dJ1_indexOf_4cfef_9 rfl (lv_at hl 2 rfl) ?_
    refine lv_iconst (v := 0) hx hb dJ1_indexOf_4cfef_10 (by decide) ?_
    refine va_mmax hx hb (hml.trans hl.1.symm) hown (hts _ tl_max) (hts _ wm_max_s) (hts _ wm_i) (hts _ wm_max_c) (by decide) (by decide) (by decide) (by decide) dJ1_indexOf_4cfef_11 ?_
    rw [if_neg (by decide)]
    refine lv_istore_n (lv' := [(2, .int 0), (0, .ref (τ (3000 + j))), (1, .int i), (3, .int (Int32.ofNat (jTT.2.getD j []).length))]) hx hb dJ1_indexOf_4cfef_14 rfl hl (by decide) rfl (fun ls hl => ?_)
    refine lv_iload_n hx hb dJ1_indexOf_4cfef_15 rfl (lv_at hl 3 rfl) ?_
    refine lv_aload_n hx hb dJ1_indexOf_4cfef_16 rfl (lv_at hl 1 rfl) ?_
    refine va_tlen hx hb hA va_S.rf rfl dJ1_indexOf_4cfef_17 ?_
    refine va_mmin hx hb (hml.trans hl.1.symm) hown (hts _ tl_min) (hts _ wm_min_s) (hts _ wm_i) (hts _ wm_min_c) (by decide) (by decide) (by decide) (by decide) dJ1_indexOf_4cfef_18 ?_
    rw [ite_self]
    refine lv_istore_n (lv' := [(3, .int (Int32.ofNat (jTT.2.getD j []).length)), (2, .int 0), (0, .ref (τ (3000 + j))), (1, .int i)]) hx hb dJ1_indexOf_4cfef_21 rfl hl (by decide) rfl (fun ls hl => ?_)
    refine lv_iload_n hx hb dJ1_indexOf_4cfef_22 rfl (lv_at hl 1 rfl) ?_
    refine lv_iload_n hx hb dJ1_indexOf_4cfef_23 rfl (lv_at hl 0 rfl) ?_
    refine lv_icmp_lt (tgt := 29) hx hb dJ1_indexOf_4cfef_24 (by decide) (fun q2 => ?_) (fun q2 => ?_)
    · refine lv_aload_n hx hb dJ1_indexOf_4cfef_29 rfl (lv_at hl 2 rfl) ?_
      refine lv_iload_n hx hb dJ1_indexOf_4cfef_30 rfl (lv_at hl 3 rfl) ?_
      refine lv_iload_n hx hb dJ1_indexOf_4cfef_31 rfl (lv_at hl 1 rfl) ?_
      refine lv_iload_n hx hb dJ1_indexOf_4cfef_32 rfl (lv_at hl 0 rfl) ?_
      refine j_asked (va_runS (As := [.ref (τ (3000 + j)), .int i, .int 0, .int (Int32.ofNat (jTT.2.getD j []).length)]) (rest := []) (n := 4) ⟨hx, hb, hml, hown, hts⟩ (ct_ixc l τ A hj i h0 h1) ⟨callB_of 4 hts (j_good_cons tc_J1_indexOfChar_4cfef) rfl rfl rfl (hts _ ti_1) (hts _ tl_ixc) ⟨by decide, by decide, by decide +kernel⟩ ⟨by decide, by decide⟩, hts _ ts_J1_indexOfChar_4cfef⟩ ⟨jTxt_blind, fun U hU hW => ⟨rfl, by dsimp only; rw [hU]; exact hT.moved hW.alike⟩⟩ rfl rfl hl.1 rfl (lv_room (Nat.le_of_ble_eq_true rfl)) dJ1_indexOf_4cfef_33 ⟨Nat.le_refl _, Nat.le_refl _⟩) ?_
      exact W.iret hx hb hr (fun t ht _ => ⟨_, rfl, rfl, ht⟩) (fun _ q => absurd q List.not_mem_nil) dJ1_indexOf_4cfef_36 hlk
    · refine lv_iconst (v := -1) hx hb dJ1_indexOf_4cfef_27 (by decide) ?_
      refine W.iret hx hb hr (fun t ht _ => ⟨_, rfl, ?_, ht⟩) (fun _ q => absurd q List.not_mem_nil) dJ1_indexOf_4cfef_28 hlk
      have hz : (jTT.2.getD j []).length = 0 := by
        apply Classical.byContradiction
        intro q3
        exact q2 (show nI 0 < nI (jTT.2.getD j []).length from nI_lt (by omega) (by omega))
      rw [List.length_eq_zero_iff.mp hz]
      rfl
  · have hi : i < 0 ∨ 255 < i := by
      apply Classical.byContradiction
      intro z
      rw [if_neg z] at q
      exact absurd q (by decide)
    refine lv_iconst (v := -1) hx hb dJ1_indexOf_4cfef_7 (by decide) ?_
    exact W.iret hx hb hr (fun t ht _ => ⟨_, rfl, (j_ix_out i hmem hi _ 0 (fun b hb => hb)).symm, ht⟩) (fun _ q => absurd q List.not_mem_nil) dJ1_indexOf_4cfef_8 hlk
theorem ct_ix2 (l : Launch) (τ : Nat → Nat) (A : Nat → Prop) {j : Nat} (hj : j < 14) (i : Int32) : Met l yJ0_indexOf_7cf53 tw_J0_indexOf_7cf53 (trm 4) (va_Pc [.ref (τ (2000 + j)), .int i, .int 0] (fun U => jTxt τ A U U.heap)) (vp_Si (fun r => r = j_ix i (jTT.2.getD j []) 0)) 0 0 (fun _ => False) := by
  refine Met.ofW (cc := cJ0_indexOf_7cf53) (maxL := 3) (ret := (some .int)) (by decide) rfl ?_
  intro p e s m args below meth c s₁ B hml hv
  obtain ⟨rfl, hT⟩ := hv
  have hx := B.exec
  have hb := B.bytes
  have hr := B.returns
  have hlk := B.notSynchronized
  have hts0 := atoms_spec (ws := tw_J0_indexOf_7cf53) B.pre
  have hts : ∀ w ∈ jgood, w.before _ s = true := fun w hw => hts0 w (List.mem_cons_of_mem _ hw)
  have hown : s.vm.findClass yJ0_indexOf_7cf53.cls = some m.cls := findClass_of_methodNamed B.named
  have hl := lv_entry ([.ref (τ (2000 + j)), .int i, .int 0]) (n := 3) (Nat.le_of_ble_eq_true rfl)
  rw [lg_entry_eq]
  generalize (lg_sl ([.ref (τ (2000 + j)), .int i, .int 0]) ++ List.replicate (3 - (lg_sl ([.ref (τ (2000 + j)), .int i, .int 0])).length) Slot.unset).toArray = ls at hl ⊢
  have hl : lv_has ls 3 [(0, .ref (τ (2000 + j))), (1, .int i), (2, .int 0)] := hl
  refine lv_aload_n hx hb dJ0_indexOf_7cf53_0 rfl (lv_at hl 0 rfl) ?_
  refine j_asked (va_runV (C := RJ0) (b := τ (2000 + j)) (As := []) (rest := []) (n := 0) ⟨hx, hb, hml, hown, hts⟩ (ct_lat l τ A hj) ⟨callB_of 0 hts (j_good_cons tc_J0_isLatin1_aae02) rfl rfl rfl (hts _ ti_0) (hts _ tl_lat) ⟨by decide, by decide, by decide +kernel⟩ ⟨by decide, by decide⟩, hts _ tm_J0_isLatin1_aae02, hts _ tq_J0_isLatin1_aae02⟩ ⟨jTxt_blind, (by
      obtain ⟨cellB, e1, e2, e3, -⟩ := (hT.1 j hj).1
      exact ⟨cellB, e1, e2, e3⟩), fun U hU hW => ⟨rfl, by dsimp only; rw [hU]; exact hT.moved hW.alike⟩⟩ rfl rfl hl.1 rfl (lv_room (Nat.le_of_ble_eq_true rfl)) dJ0_indexOf_7cf53_1 ⟨Nat.le_refl _, Nat.le_refl _⟩) ?_
  refine lv_if_eq (tgt := 23) hx hb dJ0_indexOf_7cf53_4 (by decide) (fun q => absurd q (by decide)) (fun _ => ?_)
  refine lv_aload_n hx hb dJ0_indexOf_7cf53_7 rfl (lv_at hl 0 rfl) ?_
  refine vk_getf hx hb (hT.1 j hj).2.2.1 va_S.rf hown (hts _ tf_val) (fun _ h => h) dJ0_indexOf_7cf53_8 ?_
  refine lv_iload_n hx hb dJ0_indexOf_7cf53_11 rfl (lv_at hl 1 rfl) ?_
  refine lv_iload_n hx hb dJ0_indexOf_7cf53_12 rfl (lv_at hl 2 rfl) ?_
  refine lv_aload_n hx hb dJ0_indexOf_7cf53_13 rfl (lv_at hl 0 rfl) ?_
  refine j_asked (va_runV (C := RJ0) (b := τ (2000 + j)) (As := []) (rest := [.int 0, .int i, .ref (τ (3000 + j))]) (n := 0) ⟨hx, hb, hml, hown, hts⟩ (ct_len l τ A hj (f := 2) (Nat.le_refl 2)) ⟨callB_of 0 hts (j_good_cons tc_J0_length_8abf5) rfl rfl rfl (hts _ ti_0) (hts _ tl_len) ⟨by decide, by decide, by decide +kernel⟩ ⟨by decide, by decide⟩, hts _ tm_J0_length_8abf5, hts _ tq_J0_length_8abf5⟩ ⟨jTxt_blind, (by
      obtain ⟨cellB, e1, e2, e3, -⟩ := (hT.1 j hj).1
      exact ⟨cellB, e1, e2, e3⟩), fun U hU hW => ⟨rfl, by dsimp only; rw [hU]; exact hT.moved hW.alike⟩⟩ rfl rfl hl.1 rfl (lv_room (Nat.le_of_ble_eq_true rfl)) dJ0_indexOf_7cf53_14 ⟨Nat.le_refl _, Nat.le_refl _⟩) ?_
  refine j_asked (va_runS (As := [.ref (τ (3000 + j)), .int i, .int 0, .int (Int32.ofNat (jTT.2.getD j []).length)]) (rest := []) (n := 4) ⟨hx, hb, hml, hown, hts⟩ (ct_ixl l τ A hj i) ⟨callB_of 4 hts (j_good_cons tc_J1_indexOf_4cfef) rfl rfl rfl (hts _ ti_1) (hts _ tl_ixl) ⟨by decide, by decide, by decide +kernel⟩ ⟨by decide, by decide⟩, hts _ ts_J1_indexOf_4cfef⟩ ⟨jTxt_blind, fun U hU hW => ⟨rfl, by dsimp only; rw [hU]; exact hT.moved hW.alike⟩⟩ rfl rfl hl.1 rfl (lv_room (Nat.le_of_ble_eq_true rfl)) dJ0_indexOf_7cf53_17 ⟨Nat.le_refl _, Nat.le_refl _⟩) ?_
  refine lv_goto (tgt := 36) hx hb dJ0_indexOf_7cf53_20 (by decide) ?_
  exact W.iret hx hb hr (fun t ht _ => ⟨_, rfl, rfl, ht⟩) (fun _ q => absurd q List.not_mem_nil) dJ0_indexOf_7cf53_36 hlk
theorem ct_ixo (l : Launch) (τ : Nat → Nat) (A : Nat → Prop) {j : Nat} (hj : j < 14) (i : Int32) : Met l yJ0_indexOf_0f7a4 tw_J0_indexOf_0f7a4 (trm 7) (va_Pc [.ref (τ (2000 + j)), .int i] (fun U => jTxt τ A U U.heap)) (vp_Si (fun r => r = j_ix i (jTT.2.getD j []) 0)) 0 0 (fun _ => False) := by
  refine Met.ofW (cc := cJ0_indexOf_0f7a4) (maxL := 2) (ret := (some .int)) (by decide) rfl ?_
  intro p e s m args below meth c s₁ B hml hv
  obtain ⟨rfl, hT⟩ := hv
  have hx := B.exec
  have hb := B.bytes
  have hr := B.returns
  have hlk := B.notSynchronized
  have hts0 := atoms_spec (ws := tw_J0_indexOf_0f7a4) B.pre
  have hts : ∀ w ∈ jgood, w.before _ s = true := fun w hw => hts0 w (List.mem_cons_of_mem _ hw)
  have hown : s.vm.findClass yJ0_indexOf_0f7a4.cls = some m.cls := findClass_of_methodNamed B.named
  have hl := lv_entry ([.ref (τ (2000 + j)), .int i]) (n := 2) (Nat.le_of_ble_eq_true rfl)
  rw [lg_entry_eq]
  generalize (lg_sl ([.ref (τ (2000 + j)), .int i]) ++ List.replicate (2 - (lg_sl ([.ref (τ (2000 + j)), .int i])).length) Slot.unset).toArray = ls at hl ⊢
  have hl : lv_has ls 2 [(0, .ref (τ (2000 + j))), (1, .int i)] := hl
  refine lv_aload_n hx hb dJ0_indexOf_0f7a4_0 rfl (lv_at hl 0 rfl) ?_
  refine lv_iload_n hx hb dJ0_indexOf_0f7a4_1 rfl (lv_at hl 1 rfl) ?_
  refine lv_iconst (v := 0) hx hb dJ0_indexOf_0f7a4_2 (by decide) ?_
  refine j_asked (va_runV (C := RJ0) (b := τ (2000 + j)) (As := [.int i, .int 0]) (rest := []) (n := 2) ⟨hx, hb, hml, hown, hts⟩ (ct_ix2 l τ A hj i) ⟨callB_of 2 hts (j_good_cons tc_J0_indexOf_7cf53) rfl rfl rfl (hts _ ti_0) (hts _ tl_ix2) ⟨by decide, by decide, by decide +kernel⟩ ⟨by decide, by decide⟩, hts _ tm_J0_indexOf_7cf53, hts _ tq_J0_indexOf_7cf53⟩ ⟨jTxt_blind, (by
      obtain ⟨cellB, e1, e2, e3, -⟩ := (hT.1 j hj).1
      exact ⟨cellB, e1, e2, e3⟩), fun U hU hW => ⟨rfl, by dsimp only; rw [hU]; exact hT.moved hW.alike⟩⟩ rfl rfl hl.1 rfl (lv_room (Nat.le_of_ble_eq_true rfl)) dJ0_indexOf_0f7a4_3 ⟨Nat.le_refl _, Nat.le_refl _⟩) ?_
  exact W.iret hx hb hr (fun t ht _ => ⟨_, rfl, rfl, ht⟩) (fun _ q => absurd q List.not_mem_nil) dJ0_indexOf_0f7a4_6 hlk
theorem jStr_holds (l : Launch) (τ : Nat → Nat) (A : Nat → Prop) : jStr l τ A := fun j hj => ⟨ct_len l τ A hj (f := 7) (by decide), fun i hi => ct_cha l τ A hj i hi, fun i => ct_ixo l τ A hj i⟩
