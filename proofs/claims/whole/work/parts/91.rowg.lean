/-! ROWS: spaces -/
section ROWG
variable {d e : Nat} {I J : Nat → Nat → Int32} {L L' : Nat → Nat → Int64} {pa pb pu pw : Option Nat} {m : Nat → Int32}
theorem mxI {a b : Nat} (ha : a ≤ 5000) (hb : b ≤ 5000) : (if nI a < nI b then nI b else nI a) = nI (max a b) := by
  by_cases q : a < b
  · rw [if_pos (nI_lt q (by omega)), Nat.max_eq_right (by omega)]
  · rw [if_neg (nI_nlt (by omega) (by omega)), Nat.max_eq_left (by omega)]
theorem mnI {a b : Nat} (ha : a ≤ 5000) (hb : b ≤ 5000) : (if nI b < nI a then nI b else nI a) = nI (min a b) := by
  by_cases q : b < a
  · rw [if_pos (nI_lt q (by omega)), Nat.min_eq_right (by omega)]
  · rw [if_neg (nI_nlt (by omega) (by omega)), Nat.min_eq_left (by omega)]
theorem sbI {a b c : Nat} (ha : a ≤ 5000) (hb : b ≤ 5000) (hc : c ≤ 5000) : nI a - nI b < nI c ↔ a < b + c := by
  have e2 : (nI a - nI b).toInt = (a : Int) - (b : Int) := by
    rw [Int32.toInt_sub, nI_toInt (by omega), nI_toInt (by omega), Int.bmod_def]
    split <;> omega
  rw [Int32.lt_iff_toInt_lt, e2, nI_toInt (by omega)]
  omega
theorem meet_1 (h : mT m I J) {p q a1 b1 a2 b2 : Nat} (hp : p < 16) (hq : q < 16) (x1 : m (153 + p * 8) = nI a1) (x2 : m (153 + q * 8) = nI a2) (y1 : m (154 + p * 8) = nI b1) (y2 : m (154 + q * 8) = nI b2) (h1 : a1 ≤ 2000) (h2 : a2 ≤ 2000) (h3 : b1 ≤ 2000) (h4 : b2 ≤ 2000) : jv (d + 1) 64 0 [some (.ref 3), some (.int (nI p)), some (.int (nI q)), some (.int 1), some (.int 0), none, none] [] (shC, I, L, pX pa pb pu pw) = some (some (.int (if min b1 b2 < max a1 a2 + 0 then 0 else 1)), (shC, I, L, pX pa pb pu pw)) := by
  rw [B64_0_o3, g_of3_2_1 hp, h.1 _ (by omega), x1]
  dsimp only [Option.toList_some, List.cons_append, List.nil_append]
  rw [B64_7_o3, g_of3_2_1 hq, h.1 _ (by omega), x2]
  dsimp only [Option.toList_some, List.cons_append, List.nil_append]
  rw [B64_14_o3, mxI (by omega) (by omega), show (1 : Int32) + 1 = 2 from rfl, g_of3_2_2 hp, h.1 _ (by omega), y1]
  dsimp only [Option.toList_some, List.cons_append, List.nil_append]
  rw [B64_28_o3, show (1 : Int32) + 1 = 2 from rfl, g_of3_2_2 hq, h.1 _ (by omega), y2]
  dsimp only [Option.toList_some, List.cons_append, List.nil_append]
  rw [B64_37_o3, mnI (by omega) (by omega)]
  have cond : nI (min b1 b2) - nI (max a1 a2) < 0 ↔ min b1 b2 < max a1 a2 + 0 := sbI (c := 0) (by omega) (by omega) (by decide)
  by_cases z : min b1 b2 < max a1 a2 + 0
  · rw [if_pos (cond.mpr z), if_pos z, B64_57_o3, if_pos bl_0]
  · rw [if_neg (fun w => z (cond.mp w)), if_neg z, B64_57_o3, if_pos bl_1]
theorem mtr_1 (h : mT m I J) {p q a1 b1 a2 b2 : Nat} (hp : p < 16) (hq : q < 16) (x1 : m (153 + p * 8) = nI a1) (x2 : m (153 + q * 8) = nI a2) (y1 : m (154 + p * 8) = nI b1) (y2 : m (154 + q * 8) = nI b2) (h1 : a1 ≤ 2000) (h2 : a2 ≤ 2000) (h3 : b1 ≤ 2000) (h4 : b2 ≤ 2000) (l4 : Int32) (fl : Nat) (hfl : fl ≤ 1) (o8 o9 : Option Value) : ∃ q8 q9, jv e 244 86 [some (.ref 0), some (.ref 7), some (.int (nI p)), some (.int (nI (152 + p * 8))), some (.int l4), some (.int (nI (152 + q * 8))), some (.int (nI fl)), some (.int 1), o8, o9] [] (shR, J, L', pR) = jv e 244 86 [some (.ref 0), some (.ref 7), some (.int (nI p)), some (.int (nI (152 + p * 8))), some (.int l4), some (.int (nI (152 + q * 8))), some (.int (nI (if min b1 b2 < max a1 a2 + 0 then 0 else fl))), some (.int 3), q8, q9] [] (shR, J, L', pR) := by
  have e1 : nI (152 + p * 8) + 1 = nI (153 + p * 8) := by rw [show nI (152 + p * 8) + 1 = nI (152 + p * 8 + 1) from nI_add _ 1, show 152 + p * 8 + 1 = 153 + p * 8 by omega]
  have e2 : nI (152 + q * 8) + 1 = nI (153 + q * 8) := by rw [show nI (152 + q * 8) + 1 = nI (152 + q * 8 + 1) from nI_add _ 1, show 152 + q * 8 + 1 = 153 + q * 8 by omega]
  have e3 : nI (153 + p * 8) + 1 = nI (154 + p * 8) := by rw [nI_1, show 153 + p * 8 + 1 = 154 + p * 8 by omega]
  have e4 : nI (153 + q * 8) + 1 = nI (154 + q * 8) := by rw [nI_1, show 153 + q * 8 + 1 = 154 + q * 8 by omega]
  have j1 : j_in (nI (153 + p * 8)) 1189 = true := j_in_nI (by omega) (by decide)
  have j2 : j_in (nI (153 + q * 8)) 1189 = true := j_in_nI (by omega) (by decide)
  have j3 : j_in (nI (154 + p * 8)) 1189 = true := j_in_nI (by omega) (by decide)
  have j4 : j_in (nI (154 + q * 8)) 1189 = true := j_in_nI (by omega) (by decide)
  have k1 : ∀ w8 w9, jv e 244 86 [some (.ref 0), some (.ref 7), some (.int (nI p)), some (.int (nI (152 + p * 8))), some (.int l4), some (.int (nI (152 + q * 8))), some (.int (nI fl)), some (.int 1), w8, w9] [] (shR, J, L', pR) = jv e 244 125 [some (.ref 0), some (.ref 7), some (.int (nI p)), some (.int (nI (152 + p * 8))), some (.int l4), some (.int (nI (152 + q * 8))), some (.int (nI fl)), some (.int 1), w8, w9] [.int (nI (max a1 a2))] (shR, J, L', pR) := by
    intro w8 w9
    rw [B244_86_a7, if_pos (by decide), e1, e2, if_pos j1, if_pos j2, nI_clamp (n := 153 + p * 8) (by omega), nI_clamp (n := 153 + q * 8) (by omega), h.2.1 (153 + p * 8) (by omega), h.2.1 (153 + q * 8) (by omega), x1, x2]
    by_cases z : a2 < a1
    · rw [if_pos (nI_lt z (by omega)), if_pos j1, Nat.max_eq_left (by omega)]
    · rw [if_neg (nI_nlt (by omega) (by omega)), if_pos j2, Nat.max_eq_right (by omega)]
  have k2 : ∀ w8 w9, jv e 244 125 [some (.ref 0), some (.ref 7), some (.int (nI p)), some (.int (nI (152 + p * 8))), some (.int l4), some (.int (nI (152 + q * 8))), some (.int (nI fl)), some (.int 1), w8, w9] [.int (nI (max a1 a2))] (shR, J, L', pR) = jv e 244 167 [some (.ref 0), some (.ref 7), some (.int (nI p)), some (.int (nI (152 + p * 8))), some (.int l4), some (.int (nI (152 + q * 8))), some (.int (nI fl)), some (.int 1), some (.int (nI (max a1 a2))), w9] [.int (nI (min b1 b2))] (shR, J, L', pR) := by
    intro w8 w9
    rw [B244_125_a7, e1, e2, e3, e4, if_pos j3, if_pos j4, nI_clamp (n := 154 + p * 8) (by omega), nI_clamp (n := 154 + q * 8) (by omega), h.2.1 (154 + p * 8) (by omega), h.2.1 (154 + q * 8) (by omega), y1, y2]
    by_cases z : b1 < b2
    · rw [if_pos (nI_lt z (by omega)), if_pos j3, Nat.min_eq_left (by omega)]
    · rw [if_neg (nI_nlt (by omega) (by omega)), if_pos j4, Nat.min_eq_right (by omega)]
  rw [k1, k2, B244_167_a7]
  refine ⟨some (.int (nI (max a1 a2))), some (.int (nI (min b1 b2))), ?_⟩
  by_cases z0 : fl = 0
  · rw [z0, if_pos (show nI 0 = 0 from rfl), B244_201_a7, B244_202_a7, ite_self]
    rfl
  · have f1 : fl = 1 := by omega
    rw [f1, if_neg (show ¬ nI 1 = 0 by decide), if_neg (by decide)]
    by_cases z : min b1 b2 < max a1 a2 + 0
    · rw [if_pos (nI_lt (by omega) (by omega)), if_pos z, B244_201_a7, B244_202_a7]
      rfl
    · rw [if_neg (nI_nlt (by omega) (by omega)), if_neg z, B244_197_a7, B244_202_a7]
      rfl
theorem meet_3 (h : mT m I J) {p q a1 b1 a2 b2 : Nat} (hp : p < 16) (hq : q < 16) (x1 : m (155 + p * 8) = nI a1) (x2 : m (155 + q * 8) = nI a2) (y1 : m (156 + p * 8) = nI b1) (y2 : m (156 + q * 8) = nI b2) (h1 : a1 ≤ 2000) (h2 : a2 ≤ 2000) (h3 : b1 ≤ 2000) (h4 : b2 ≤ 2000) : jv (d + 1) 64 0 [some (.ref 3), some (.int (nI p)), some (.int (nI q)), some (.int 3), some (.int 0), none, none] [] (shC, I, L, pX pa pb pu pw) = some (some (.int (if min b1 b2 < max a1 a2 + 0 then 0 else 1)), (shC, I, L, pX pa pb pu pw)) := by
  rw [B64_0_o3, g_of3_2_3 hp, h.1 _ (by omega), x1]
  dsimp only [Option.toList_some, List.cons_append, List.nil_append]
  rw [B64_7_o3, g_of3_2_3 hq, h.1 _ (by omega), x2]
  dsimp only [Option.toList_some, List.cons_append, List.nil_append]
  rw [B64_14_o3, mxI (by omega) (by omega), show (3 : Int32) + 1 = 4 from rfl, g_of3_2_4 hp, h.1 _ (by omega), y1]
  dsimp only [Option.toList_some, List.cons_append, List.nil_append]
  rw [B64_28_o3, show (3 : Int32) + 1 = 4 from rfl, g_of3_2_4 hq, h.1 _ (by omega), y2]
  dsimp only [Option.toList_some, List.cons_append, List.nil_append]
  rw [B64_37_o3, mnI (by omega) (by omega)]
  have cond : nI (min b1 b2) - nI (max a1 a2) < 0 ↔ min b1 b2 < max a1 a2 + 0 := sbI (c := 0) (by omega) (by omega) (by decide)
  by_cases z : min b1 b2 < max a1 a2 + 0
  · rw [if_pos (cond.mpr z), if_pos z, B64_57_o3, if_pos bl_0]
  · rw [if_neg (fun w => z (cond.mp w)), if_neg z, B64_57_o3, if_pos bl_1]
theorem mtr_3 (h : mT m I J) {p q a1 b1 a2 b2 : Nat} (hp : p < 16) (hq : q < 16) (x1 : m (155 + p * 8) = nI a1) (x2 : m (155 + q * 8) = nI a2) (y1 : m (156 + p * 8) = nI b1) (y2 : m (156 + q * 8) = nI b2) (h1 : a1 ≤ 2000) (h2 : a2 ≤ 2000) (h3 : b1 ≤ 2000) (h4 : b2 ≤ 2000) (l4 : Int32) (fl : Nat) (hfl : fl ≤ 1) (o8 o9 : Option Value) : ∃ q8 q9, jv e 244 86 [some (.ref 0), some (.ref 7), some (.int (nI p)), some (.int (nI (152 + p * 8))), some (.int l4), some (.int (nI (152 + q * 8))), some (.int (nI fl)), some (.int 3), o8, o9] [] (shR, J, L', pR) = jv e 244 86 [some (.ref 0), some (.ref 7), some (.int (nI p)), some (.int (nI (152 + p * 8))), some (.int l4), some (.int (nI (152 + q * 8))), some (.int (nI (if min b1 b2 < max a1 a2 + 0 then 0 else fl))), some (.int 5), q8, q9] [] (shR, J, L', pR) := by
  have e1 : nI (152 + p * 8) + 3 = nI (155 + p * 8) := by rw [show nI (152 + p * 8) + 3 = nI (152 + p * 8 + 3) from nI_add _ 3, show 152 + p * 8 + 3 = 155 + p * 8 by omega]
  have e2 : nI (152 + q * 8) + 3 = nI (155 + q * 8) := by rw [show nI (152 + q * 8) + 3 = nI (152 + q * 8 + 3) from nI_add _ 3, show 152 + q * 8 + 3 = 155 + q * 8 by omega]
  have e3 : nI (155 + p * 8) + 1 = nI (156 + p * 8) := by rw [nI_1, show 155 + p * 8 + 1 = 156 + p * 8 by omega]
  have e4 : nI (155 + q * 8) + 1 = nI (156 + q * 8) := by rw [nI_1, show 155 + q * 8 + 1 = 156 + q * 8 by omega]
  have j1 : j_in (nI (155 + p * 8)) 1189 = true := j_in_nI (by omega) (by decide)
  have j2 : j_in (nI (155 + q * 8)) 1189 = true := j_in_nI (by omega) (by decide)
  have j3 : j_in (nI (156 + p * 8)) 1189 = true := j_in_nI (by omega) (by decide)
  have j4 : j_in (nI (156 + q * 8)) 1189 = true := j_in_nI (by omega) (by decide)
  have k1 : ∀ w8 w9, jv e 244 86 [some (.ref 0), some (.ref 7), some (.int (nI p)), some (.int (nI (152 + p * 8))), some (.int l4), some (.int (nI (152 + q * 8))), some (.int (nI fl)), some (.int 3), w8, w9] [] (shR, J, L', pR) = jv e 244 125 [some (.ref 0), some (.ref 7), some (.int (nI p)), some (.int (nI (152 + p * 8))), some (.int l4), some (.int (nI (152 + q * 8))), some (.int (nI fl)), some (.int 3), w8, w9] [.int (nI (max a1 a2))] (shR, J, L', pR) := by
    intro w8 w9
    rw [B244_86_a7, if_pos (by decide), e1, e2, if_pos j1, if_pos j2, nI_clamp (n := 155 + p * 8) (by omega), nI_clamp (n := 155 + q * 8) (by omega), h.2.1 (155 + p * 8) (by omega), h.2.1 (155 + q * 8) (by omega), x1, x2]
    by_cases z : a2 < a1
    · rw [if_pos (nI_lt z (by omega)), if_pos j1, Nat.max_eq_left (by omega)]
    · rw [if_neg (nI_nlt (by omega) (by omega)), if_pos j2, Nat.max_eq_right (by omega)]
  have k2 : ∀ w8 w9, jv e 244 125 [some (.ref 0), some (.ref 7), some (.int (nI p)), some (.int (nI (152 + p * 8))), some (.int l4), some (.int (nI (152 + q * 8))), some (.int (nI fl)), some (.int 3), w8, w9] [.int (nI (max a1 a2))] (shR, J, L', pR) = jv e 244 167 [some (.ref 0), some (.ref 7), some (.int (nI p)), some (.int (nI (152 + p * 8))), some (.int l4), some (.int (nI (152 + q * 8))), some (.int (nI fl)), some (.int 3), some (.int (nI (max a1 a2))), w9] [.int (nI (min b1 b2))] (shR, J, L', pR) := by
    intro w8 w9
    rw [B244_125_a7, e1, e2, e3, e4, if_pos j3, if_pos j4, nI_clamp (n := 156 + p * 8) (by omega), nI_clamp (n := 156 + q * 8) (by omega), h.2.1 (156 + p * 8) (by omega), h.2.1 (156 + q * 8) (by omega), y1, y2]
    by_cases z : b1 < b2
    · rw [if_pos (nI_lt z (by omega)), if_pos j3, Nat.min_eq_left (by omega)]
    · rw [if_neg (nI_nlt (by omega) (by omega)), if_pos j4, Nat.min_eq_right (by omega)]
  rw [k1, k2, B244_167_a7]
  refine ⟨some (.int (nI (max a1 a2))), some (.int (nI (min b1 b2))), ?_⟩
  by_cases z0 : fl = 0
  · rw [z0, if_pos (show nI 0 = 0 from rfl), B244_201_a7, B244_202_a7, ite_self]
    rfl
  · have f1 : fl = 1 := by omega
    rw [f1, if_neg (show ¬ nI 1 = 0 by decide), if_neg (by decide)]
    by_cases z : min b1 b2 < max a1 a2 + 0
    · rw [if_pos (nI_lt (by omega) (by omega)), if_pos z, B244_201_a7, B244_202_a7]
      rfl
    · rw [if_neg (nI_nlt (by omega) (by omega)), if_neg z, B244_197_a7, B244_202_a7]
      rfl
theorem meet_5 (h : mT m I J) {p q a1 b1 a2 b2 : Nat} (hp : p < 16) (hq : q < 16) (x1 : m (157 + p * 8) = nI a1) (x2 : m (157 + q * 8) = nI a2) (y1 : m (158 + p * 8) = nI b1) (y2 : m (158 + q * 8) = nI b2) (h1 : a1 ≤ 2000) (h2 : a2 ≤ 2000) (h3 : b1 ≤ 2000) (h4 : b2 ≤ 2000) : jv (d + 1) 64 0 [some (.ref 3), some (.int (nI p)), some (.int (nI q)), some (.int 5), some (.int 1), none, none] [] (shC, I, L, pX pa pb pu pw) = some (some (.int (if min b1 b2 < max a1 a2 + 1 then 0 else 1)), (shC, I, L, pX pa pb pu pw)) := by
  rw [B64_0_o3, g_of3_2_5 hp, h.1 _ (by omega), x1]
  dsimp only [Option.toList_some, List.cons_append, List.nil_append]
  rw [B64_7_o3, g_of3_2_5 hq, h.1 _ (by omega), x2]
  dsimp only [Option.toList_some, List.cons_append, List.nil_append]
  rw [B64_14_o3, mxI (by omega) (by omega), show (5 : Int32) + 1 = 6 from rfl, g_of3_2_6 hp, h.1 _ (by omega), y1]
  dsimp only [Option.toList_some, List.cons_append, List.nil_append]
  rw [B64_28_o3, show (5 : Int32) + 1 = 6 from rfl, g_of3_2_6 hq, h.1 _ (by omega), y2]
  dsimp only [Option.toList_some, List.cons_append, List.nil_append]
  rw [B64_37_o3, mnI (by omega) (by omega)]
  have cond : nI (min b1 b2) - nI (max a1 a2) < 1 ↔ min b1 b2 < max a1 a2 + 1 := sbI (c := 1) (by omega) (by omega) (by decide)
  by_cases z : min b1 b2 < max a1 a2 + 1
  · rw [if_pos (cond.mpr z), if_pos z, B64_57_o3, if_pos bl_0]
  · rw [if_neg (fun w => z (cond.mp w)), if_neg z, B64_57_o3, if_pos bl_1]
theorem mtr_5 (h : mT m I J) {p q a1 b1 a2 b2 : Nat} (hp : p < 16) (hq : q < 16) (x1 : m (157 + p * 8) = nI a1) (x2 : m (157 + q * 8) = nI a2) (y1 : m (158 + p * 8) = nI b1) (y2 : m (158 + q * 8) = nI b2) (h1 : a1 ≤ 2000) (h2 : a2 ≤ 2000) (h3 : b1 ≤ 2000) (h4 : b2 ≤ 2000) (l4 : Int32) (fl : Nat) (hfl : fl ≤ 1) (o8 o9 : Option Value) : ∃ q8 q9, jv e 244 86 [some (.ref 0), some (.ref 7), some (.int (nI p)), some (.int (nI (152 + p * 8))), some (.int l4), some (.int (nI (152 + q * 8))), some (.int (nI fl)), some (.int 5), o8, o9] [] (shR, J, L', pR) = jv e 244 86 [some (.ref 0), some (.ref 7), some (.int (nI p)), some (.int (nI (152 + p * 8))), some (.int l4), some (.int (nI (152 + q * 8))), some (.int (nI (if min b1 b2 < max a1 a2 + 1 then 0 else fl))), some (.int 7), q8, q9] [] (shR, J, L', pR) := by
  have e1 : nI (152 + p * 8) + 5 = nI (157 + p * 8) := by rw [show nI (152 + p * 8) + 5 = nI (152 + p * 8 + 5) from nI_add _ 5, show 152 + p * 8 + 5 = 157 + p * 8 by omega]
  have e2 : nI (152 + q * 8) + 5 = nI (157 + q * 8) := by rw [show nI (152 + q * 8) + 5 = nI (152 + q * 8 + 5) from nI_add _ 5, show 152 + q * 8 + 5 = 157 + q * 8 by omega]
  have e3 : nI (157 + p * 8) + 1 = nI (158 + p * 8) := by rw [nI_1, show 157 + p * 8 + 1 = 158 + p * 8 by omega]
  have e4 : nI (157 + q * 8) + 1 = nI (158 + q * 8) := by rw [nI_1, show 157 + q * 8 + 1 = 158 + q * 8 by omega]
  have j1 : j_in (nI (157 + p * 8)) 1189 = true := j_in_nI (by omega) (by decide)
  have j2 : j_in (nI (157 + q * 8)) 1189 = true := j_in_nI (by omega) (by decide)
  have j3 : j_in (nI (158 + p * 8)) 1189 = true := j_in_nI (by omega) (by decide)
  have j4 : j_in (nI (158 + q * 8)) 1189 = true := j_in_nI (by omega) (by decide)
  have k1 : ∀ w8 w9, jv e 244 86 [some (.ref 0), some (.ref 7), some (.int (nI p)), some (.int (nI (152 + p * 8))), some (.int l4), some (.int (nI (152 + q * 8))), some (.int (nI fl)), some (.int 5), w8, w9] [] (shR, J, L', pR) = jv e 244 125 [some (.ref 0), some (.ref 7), some (.int (nI p)), some (.int (nI (152 + p * 8))), some (.int l4), some (.int (nI (152 + q * 8))), some (.int (nI fl)), some (.int 5), w8, w9] [.int (nI (max a1 a2))] (shR, J, L', pR) := by
    intro w8 w9
    rw [B244_86_a7, if_pos (by decide), e1, e2, if_pos j1, if_pos j2, nI_clamp (n := 157 + p * 8) (by omega), nI_clamp (n := 157 + q * 8) (by omega), h.2.1 (157 + p * 8) (by omega), h.2.1 (157 + q * 8) (by omega), x1, x2]
    by_cases z : a2 < a1
    · rw [if_pos (nI_lt z (by omega)), if_pos j1, Nat.max_eq_left (by omega)]
    · rw [if_neg (nI_nlt (by omega) (by omega)), if_pos j2, Nat.max_eq_right (by omega)]
  have k2 : ∀ w8 w9, jv e 244 125 [some (.ref 0), some (.ref 7), some (.int (nI p)), some (.int (nI (152 + p * 8))), some (.int l4), some (.int (nI (152 + q * 8))), some (.int (nI fl)), some (.int 5), w8, w9] [.int (nI (max a1 a2))] (shR, J, L', pR) = jv e 244 167 [some (.ref 0), some (.ref 7), some (.int (nI p)), some (.int (nI (152 + p * 8))), some (.int l4), some (.int (nI (152 + q * 8))), some (.int (nI fl)), some (.int 5), some (.int (nI (max a1 a2))), w9] [.int (nI (min b1 b2))] (shR, J, L', pR) := by
    intro w8 w9
    rw [B244_125_a7, e1, e2, e3, e4, if_pos j3, if_pos j4, nI_clamp (n := 158 + p * 8) (by omega), nI_clamp (n := 158 + q * 8) (by omega), h.2.1 (158 + p * 8) (by omega), h.2.1 (158 + q * 8) (by omega), y1, y2]
    by_cases z : b1 < b2
    · rw [if_pos (nI_lt z (by omega)), if_pos j3, Nat.min_eq_left (by omega)]
    · rw [if_neg (nI_nlt (by omega) (by omega)), if_pos j4, Nat.min_eq_right (by omega)]
  rw [k1, k2, B244_167_a7]
  refine ⟨some (.int (nI (max a1 a2))), some (.int (nI (min b1 b2))), ?_⟩
  by_cases z0 : fl = 0
  · rw [z0, if_pos (show nI 0 = 0 from rfl), B244_201_a7, B244_202_a7, ite_self]
    rfl
  · have f1 : fl = 1 := by omega
    rw [f1, if_neg (show ¬ nI 1 = 0 by decide), if_pos rfl]
    by_cases z : min b1 b2 < max a1 a2 + 1
    · rw [if_neg (nI_nlt (by omega) (by omega)), if_pos z, B244_201_a7, B244_202_a7]
      rfl
    · rw [if_pos (nI_lt (by omega) (by omega)), if_neg z, B244_197_a7, B244_202_a7]
      rfl
/-- two spaces meet -/
theorem row_2 (h : mT m I J) {p : Nat} (hp : p < 16) : ∃ b, rwB d e I J L L' pa pb pu pw 2 p b := by
  obtain ⟨f0, f1, f2, f3, f4, f5, f6, a0, a1, a2, a3, a4, a5, a6, m0, m1, m2, m3, m4, m5, m6⟩ := h.space hp
  have ee : ∀ x, nI (152 + p * 8) + nI x = nI (152 + x + p * 8) := fun x => by rw [nI_add, show 152 + p * 8 + x = 152 + x + p * 8 by omega]
  have jj : ∀ x, x < 8 → j_in (nI (152 + x + p * 8)) 1189 = true := fun x hx => j_in_nI (by omega) (by decide)
  -- the loop over the lesser spaces
  have loop : ∀ (r q : Nat) (o5 o6 o7 o8 o9 : Option Value), q + r = p → ∃ b : Int32, (b = 0 ∨ b = 1) ∧ jv (d + 4) 63 52 [some (.ref 3), some (.int (nI p)), some (.int (nI q))] [] (shC, I, L, pX pa pb pu pw) = some (some (.int b), (shC, I, L, pX pa pb pu pw)) ∧ jv (e + 4) 244 53 [some (.ref 0), some (.ref 7), some (.int (nI p)), some (.int (nI (152 + p * 8))), some (.int (nI q)), o5, o6, o7, o8, o9] [] (shR, J, L', pR) = some (some (.int b), (shR, J, L', pR)) := by
    intro r
    induction r with
    | zero =>
      intro q o5 o6 o7 o8 o9 hq
      refine ⟨1, Or.inr rfl, ?_, ?_⟩
      · rw [B63_52_o3, if_neg (nI_nlt (by omega) (by omega)), if_pos bl_1]
      · rw [B244_53_a7, if_neg (nI_nlt (by omega) (by omega)), if_pos bl_1]
    | succ r ih =>
      intro q o5 o6 o7 o8 o9 hq
      have hq16 : q < 16 := by omega
      obtain ⟨g0, g1, g2, g3, g4, g5, g6, c0, c1, c2, c3, c4, c5, c6, n0, n1, n2, n3, n4, n5, n6⟩ := h.space hq16
      rw [B63_52_o3, if_pos (nI_lt (by omega) (by omega)), jgo_some (k' := 54) rfl (kind_c h hq16), n0, B244_53_a7, if_pos (nI_lt (by omega) (by omega)), g_at_2_0 h.2.2.2]
      dsimp only [Option.toList_some, List.cons_append, List.nil_append]
      have st : jv (e + 4) 244 67 [some (.ref 0), some (.ref 7), some (.int (nI p)), some (.int (nI (152 + p * 8))), some (.int (nI q)), o5, o6, o7, o8, o9] [.int (nI (152 + q * 8))] (shR, J, L', pR) = jv (e + 4) 244 86 [some (.ref 0), some (.ref 7), some (.int (nI p)), some (.int (nI (152 + p * 8))), some (.int (nI q)), some (.int (nI (152 + q * 8))), some (.int (nI (if 0 < g0 then 1 else 0))), some (.int 1), o8, o9] [] (shR, J, L', pR) := by
        rw [B244_67_a7, if_pos (j_in_nI (by omega) (by decide)), nI_clamp (n := 152 + q * 8) (by omega), h.2.1 (152 + q * 8) (by omega), n0]
        by_cases z : 0 < g0
        · rw [if_pos (show (0 : Int32) < nI g0 from nI_lt (a := 0) z (by omega)), if_pos z, B244_81_a7]
          rfl
        · rw [if_neg (show ¬ (0 : Int32) < nI g0 from nI_nlt (a := 0) (by omega) (by decide)), if_neg z, B244_81_a7]
          rfl
      have l1 : (if 0 < g0 then 1 else 0) ≤ 1 := by split <;> omega
      obtain ⟨u8, u9, s1⟩ := mtr_1 (e := e + 4) (L' := L') h hp hq16 m1 n1 m2 n2 (by omega) (by omega) (by omega) (by omega) (nI q) _ l1 o8 o9
      have l2 : (if min f2 g2 < max f1 g1 + 0 then 0 else if 0 < g0 then 1 else 0) ≤ 1 := by split <;> omega
      obtain ⟨v8, v9, s2⟩ := mtr_3 (e := e + 4) (L' := L') h hp hq16 m3 n3 m4 n4 (by omega) (by omega) (by omega) (by omega) (nI q) _ l2 u8 u9
      have l3 : (if min f4 g4 < max f3 g3 + 0 then 0 else if min f2 g2 < max f1 g1 + 0 then 0 else if 0 < g0 then 1 else 0) ≤ 1 := by split <;> omega
      obtain ⟨w8, w9, s3⟩ := mtr_5 (e := e + 4) (L' := L') h hp hq16 m5 n5 m6 n6 a5 c5 a6 c6 (nI q) _ l3 v8 v9
      rw [st, s1, s2, s3]
      have on : ∀ (cl : jO), (cl = jv (d + 4) 63 100 [some (.ref 3), some (.int (nI p)), some (.int (nI q))] [] (shC, I, L, pX pa pb pu pw)) → ∀ fl : Nat, fl = 0 → ∃ b : Int32, (b = 0 ∨ b = 1) ∧ cl = some (some (.int b), (shC, I, L, pX pa pb pu pw)) ∧ jv (e + 4) 244 86 [some (.ref 0), some (.ref 7), some (.int (nI p)), some (.int (nI (152 + p * 8))), some (.int (nI q)), some (.int (nI (152 + q * 8))), some (.int (nI fl)), some (.int 7), w8, w9] [] (shR, J, L', pR) = some (some (.int b), (shR, J, L', pR)) := by
        intro cl hcl fl hfl
        obtain ⟨b, b1, b2, b3⟩ := ih (q + 1) (some (.int (nI (152 + q * 8)))) (some (.int (nI 0))) (some (.int 7)) w8 w9 (by omega)
        refine ⟨b, b1, ?_, ?_⟩
        · rw [hcl, B63_100_o3, nI_1]; exact b2
        · rw [hfl, B244_86_a7, if_neg (by decide), if_pos (show nI 0 = 0 from rfl), nI_1]; exact b3
      rw [B63_62_o3]
      by_cases z0 : 0 < g0
      · rw [if_pos (show (0 : Int32) < nI g0 from nI_lt (a := 0) z0 (by omega)), jgo_some (k' := 64) rfl (meet_1 h hp hq16 m1 n1 m2 n2 (by omega) (by omega) (by omega) (by omega))]
        dsimp only [Option.toList_some, List.cons_append, List.nil_append]
        rw [B63_73_o3]
        by_cases z1 : min f2 g2 < max f1 g1 + 0
        · rw [if_pos z1, if_pos rfl]
          exact on _ rfl _ (by (repeat' split) <;> first | rfl | omega)
        · rw [if_neg z1, if_neg (show ¬ (1 : Int32) = 0 by decide), jgo_some (k' := 64) rfl (meet_3 h hp hq16 m3 n3 m4 n4 (by omega) (by omega) (by omega) (by omega))]
          dsimp only [Option.toList_some, List.cons_append, List.nil_append]
          rw [B63_84_o3]
          by_cases z2 : min f4 g4 < max f3 g3 + 0
          · rw [if_pos z2, if_pos rfl]
            exact on _ rfl _ (by (repeat' split) <;> first | rfl | omega)
          · rw [if_neg z2, if_neg (show ¬ (1 : Int32) = 0 by decide), jgo_some (k' := 64) rfl (meet_5 h hp hq16 m5 n5 m6 n6 a5 c5 a6 c6)]
            dsimp only [Option.toList_some, List.cons_append, List.nil_append]
            rw [B63_95_o3]
            by_cases z3 : min f6 g6 < max f5 g5 + 1
            · rw [if_pos z3, if_pos rfl]
              exact on _ rfl _ (by (repeat' split) <;> first | rfl | omega)
            · rw [if_neg z3, if_neg (show ¬ (1 : Int32) = 0 by decide), if_pos bl_0]
              refine ⟨0, Or.inl rfl, rfl, ?_⟩
              rw [if_neg z3, if_neg z2, if_neg z1, if_pos z0, B244_86_a7, if_neg (by decide), if_neg (show ¬ nI 1 = 0 by decide), if_pos bl_0]
      · rw [if_neg (show ¬ (0 : Int32) < nI g0 from nI_nlt (a := 0) (by omega) (by decide))]
        exact on _ rfl _ (by (repeat' split) <;> first | rfl | omega)
  have both : ∃ b : Int32, (b = 0 ∨ b = 1) ∧ jv (d + 4) 63 0 [some (.ref 3), some (.int (nI p)), none] [] (shC, I, L, pX pa pb pu pw) = some (some (.int b), (shC, I, L, pX pa pb pu pw)) ∧ jv (e + 5) 243 0 [some (.ref 0), some (.ref 7), some (.int 2), some (.int (nI p)), none] [] (shR, J, L', pR) = some (some (.int b), (shR, J, L', pR)) := by
    rw [B63_0_o3, jgo_some (k' := 54) rfl (kind_c h hp), B243_0_a7, g_at_2_0 h.2.2.2]
    dsimp only [Option.toList_some, List.cons_append, List.nil_append]
    rw [B63_5_o3, B243_7_a7, if_pos (show (2 : Int32) = Int32.ofInt 2 by decide), if_pos (jj 0 (by decide)), nI_clamp (n := 152 + p * 8) (by omega), h.2.1 _ (by omega)]
    by_cases z : m (152 + p * 8) = 0
    · rw [if_pos z, if_pos z, if_pos bl_1, B243_84_a7, B243_89_a7, if_pos bl_1]
      exact ⟨1, Or.inr rfl, rfl, rfl⟩
    rw [if_neg z, if_neg z]
    -- the reference's isSpaceRight and the class's order tests
    have inner : ∃ b : Int32, (b = 0 ∨ b = 1) ∧ jgo jTT jMM (d + 4) 62 [.ref 3, .int 2, .int (nI p), .int 1] (shC, I, L, pX pa pb pu pw) (fun v S => jv (d + 4) 63 17 [some (.ref 3), some (.int (nI p)), none] (v.toList ++ []) S) = some (some (.int b), (shC, I, L, pX pa pb pu pw)) ∧ jv (e + 4) 244 0 [some (.ref 0), some (.ref 7), some (.int (nI p)), none, none, none, none, none, none, none] [] (shR, J, L', pR) = some (some (.int b), (shR, J, L', pR)) := by
      rw [jgo_some (k' := 62) rfl (ord_2_1 h hp), B244_0_a7, g_at_2_0 h.2.2.2]
      dsimp only [Option.toList_some, List.cons_append, List.nil_append]
      rw [B63_17_o3, B244_7_a7, show nI (152 + p * 8) + 1 = nI (153 + p * 8) from ee 1, show nI (152 + p * 8) + 2 = nI (154 + p * 8) from ee 2, show nI (152 + p * 8) + 3 = nI (155 + p * 8) from ee 3, show nI (152 + p * 8) + 4 = nI (156 + p * 8) from ee 4, show nI (152 + p * 8) + 5 = nI (157 + p * 8) from ee 5, show nI (152 + p * 8) + 6 = nI (158 + p * 8) from ee 6, if_pos (jj 1 (by decide)), if_pos (jj 2 (by decide)), nI_clamp (n := 153 + p * 8) (by omega), nI_clamp (n := 154 + p * 8) (by omega), h.2.1 (153 + p * 8) (by omega), h.2.1 (154 + p * 8) (by omega)]
      by_cases z1 : m (154 + p * 8) < m (153 + p * 8)
      · rw [if_pos z1, if_pos z1, if_pos rfl, B63_48_o3, if_pos bl_0, B244_48_a7, if_pos bl_0]
        exact ⟨0, Or.inl rfl, rfl, rfl⟩
      rw [if_neg z1, if_neg z1, if_neg (show ¬ (1 : Int32) = 0 by decide), jgo_some (k' := 62) rfl (ord_2_3 h hp), if_pos (jj 3 (by decide)), if_pos (jj 4 (by decide)), nI_clamp (n := 155 + p * 8) (by omega), nI_clamp (n := 156 + p * 8) (by omega), h.2.1 (155 + p * 8) (by omega), h.2.1 (156 + p * 8) (by omega)]
      dsimp only [Option.toList_some, List.cons_append, List.nil_append]
      rw [B63_27_o3]
      by_cases z2 : m (156 + p * 8) < m (155 + p * 8)
      · rw [if_pos z2, if_pos z2, if_pos rfl, B63_48_o3, if_pos bl_0, B244_48_a7, if_pos bl_0]
        exact ⟨0, Or.inl rfl, rfl, rfl⟩
      rw [if_neg z2, if_neg z2, if_neg (show ¬ (1 : Int32) = 0 by decide), g_of3_2_5 hp, h.1 _ (by omega), if_pos (jj 5 (by decide)), if_pos (jj 6 (by decide)), nI_clamp (n := 157 + p * 8) (by omega), nI_clamp (n := 158 + p * 8) (by omega), h.2.1 (157 + p * 8) (by omega), h.2.1 (158 + p * 8) (by omega)]
      dsimp only [Option.toList_some, List.cons_append, List.nil_append]
      rw [B63_37_o3, g_of3_2_6 hp, h.1 _ (by omega)]
      dsimp only [Option.toList_some, List.cons_append, List.nil_append]
      rw [B63_45_o3]
      by_cases z3 : m (157 + p * 8) < m (158 + p * 8)
      · rw [if_pos z3, if_pos z3]
        exact loop p 0 none none none none none (Nat.zero_add _)
      · rw [if_neg z3, if_neg z3, B63_48_o3, if_pos bl_0, B244_48_a7, if_pos bl_0]
        exact ⟨0, Or.inl rfl, rfl, rfl⟩
    obtain ⟨b, b1, b2, b3⟩ := inner
    refine ⟨b, b1, b2, ?_⟩
    rw [jgo_some rfl b3]
    dsimp only [Option.toList_some, List.cons_append, List.nil_append]
    rw [B243_81_a7]
    rcases b1 with w | w
    · rw [w, if_pos rfl, B243_89_a7, if_pos bl_0]
    · rw [w, if_neg (by decide), B243_84_a7, B243_89_a7, if_pos bl_1]
  obtain ⟨b, b1, b2, b3⟩ := both
  refine ⟨b, b1, ?_, b3⟩
  show jv (d + 5) 61 0 [some (.ref 3), some (.int 2), some (.int (nI p))] [] (shC, I, L, pX pa pb pu pw) = _
  rw [B61_0_o3, if_pos (by decide), jgo_some rfl b2]
  dsimp only [Option.toList_some, List.cons_append, List.nil_append]
  rw [B61_57_o3, if_pos]
  rcases b1 with z | z
  · rw [z]; exact bl_0
  · rw [z]; exact bl_1
end ROWG
