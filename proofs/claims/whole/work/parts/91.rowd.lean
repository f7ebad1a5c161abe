/-! ROWS: orders of two fields; weights, steel, solids, pipes -/
section ROWD
variable {d e : Nat} {I J : Nat → Nat → Int32} {L L' : Nat → Nat → Int64} {pa pb pu pw : Option Nat} {m : Nat → Int32}
theorem bl_0 : vp_nar .boolean 0 = 0 := by decide
theorem bl_1 : vp_nar .boolean 1 = 1 := by decide
theorem ord_2_1 (h : mT m I J) {k : Nat} (hk : k < 16) : jv (d + 1) 62 0 [some (.ref 3), some (.int 2), some (.int (nI k)), some (.int 1)] [] (shC, I, L, pX pa pb pu pw) = some (some (.int (if m (154 + k * 8) < m (153 + k * 8) then 0 else 1)), (shC, I, L, pX pa pb pu pw)) := by
  rw [B62_0_o3, g_of3_2_1 hk, h.1 _ (by omega)]
  dsimp only [Option.toList_some, List.cons_append, List.nil_append]
  rw [B62_7_o3, show (1 : Int32) + 1 = 2 from rfl, g_of3_2_2 hk, h.1 _ (by omega)]
  dsimp only [Option.toList_some, List.cons_append, List.nil_append]
  rw [B62_16_o3]
  by_cases q : m (154 + k * 8) < m (153 + k * 8)
  · rw [if_pos q, if_pos q, B62_24_o3, if_pos bl_0]
  · rw [if_neg q, if_neg q, B62_24_o3, if_pos bl_1]
theorem ord_2_3 (h : mT m I J) {k : Nat} (hk : k < 16) : jv (d + 1) 62 0 [some (.ref 3), some (.int 2), some (.int (nI k)), some (.int 3)] [] (shC, I, L, pX pa pb pu pw) = some (some (.int (if m (156 + k * 8) < m (155 + k * 8) then 0 else 1)), (shC, I, L, pX pa pb pu pw)) := by
  rw [B62_0_o3, g_of3_2_3 hk, h.1 _ (by omega)]
  dsimp only [Option.toList_some, List.cons_append, List.nil_append]
  rw [B62_7_o3, show (3 : Int32) + 1 = 4 from rfl, g_of3_2_4 hk, h.1 _ (by omega)]
  dsimp only [Option.toList_some, List.cons_append, List.nil_append]
  rw [B62_16_o3]
  by_cases q : m (156 + k * 8) < m (155 + k * 8)
  · rw [if_pos q, if_pos q, B62_24_o3, if_pos bl_0]
  · rw [if_neg q, if_neg q, B62_24_o3, if_pos bl_1]
theorem ord_3_1 (h : mT m I J) {k : Nat} (hk : k < 24) : jv (d + 1) 62 0 [some (.ref 3), some (.int 3), some (.int (nI k)), some (.int 1)] [] (shC, I, L, pX pa pb pu pw) = some (some (.int (if m (282 + k * 5) < m (281 + k * 5) then 0 else 1)), (shC, I, L, pX pa pb pu pw)) := by
  rw [B62_0_o3, g_of3_3_1 hk, h.1 _ (by omega)]
  dsimp only [Option.toList_some, List.cons_append, List.nil_append]
  rw [B62_7_o3, show (1 : Int32) + 1 = 2 from rfl, g_of3_3_2 hk, h.1 _ (by omega)]
  dsimp only [Option.toList_some, List.cons_append, List.nil_append]
  rw [B62_16_o3]
  by_cases q : m (282 + k * 5) < m (281 + k * 5)
  · rw [if_pos q, if_pos q, B62_24_o3, if_pos bl_0]
  · rw [if_neg q, if_neg q, B62_24_o3, if_pos bl_1]
theorem ord_6_1 (h : mT m I J) {k : Nat} (hk : k < 24) : jv (d + 1) 62 0 [some (.ref 3), some (.int 6), some (.int (nI k)), some (.int 1)] [] (shC, I, L, pX pa pb pu pw) = some (some (.int (if m (482 + k * 5) < m (481 + k * 5) then 0 else 1)), (shC, I, L, pX pa pb pu pw)) := by
  rw [B62_0_o3, g_of3_6_1 hk, h.1 _ (by omega)]
  dsimp only [Option.toList_some, List.cons_append, List.nil_append]
  rw [B62_7_o3, show (1 : Int32) + 1 = 2 from rfl, g_of3_6_2 hk, h.1 _ (by omega)]
  dsimp only [Option.toList_some, List.cons_append, List.nil_append]
  rw [B62_16_o3]
  by_cases q : m (482 + k * 5) < m (481 + k * 5)
  · rw [if_pos q, if_pos q, B62_24_o3, if_pos bl_0]
  · rw [if_neg q, if_neg q, B62_24_o3, if_pos bl_1]
theorem ord_8_1 (h : mT m I J) {k : Nat} (hk : k < 12) : jv (d + 1) 62 0 [some (.ref 3), some (.int 8), some (.int (nI k)), some (.int 1)] [] (shC, I, L, pX pa pb pu pw) = some (some (.int (if m (714 + k * 7) < m (713 + k * 7) then 0 else 1)), (shC, I, L, pX pa pb pu pw)) := by
  rw [B62_0_o3, g_of3_8_1 hk, h.1 _ (by omega)]
  dsimp only [Option.toList_some, List.cons_append, List.nil_append]
  rw [B62_7_o3, show (1 : Int32) + 1 = 2 from rfl, g_of3_8_2 hk, h.1 _ (by omega)]
  dsimp only [Option.toList_some, List.cons_append, List.nil_append]
  rw [B62_16_o3]
  by_cases q : m (714 + k * 7) < m (713 + k * 7)
  · rw [if_pos q, if_pos q, B62_24_o3, if_pos bl_0]
  · rw [if_neg q, if_neg q, B62_24_o3, if_pos bl_1]
theorem ord_8_3 (h : mT m I J) {k : Nat} (hk : k < 12) : jv (d + 1) 62 0 [some (.ref 3), some (.int 8), some (.int (nI k)), some (.int 3)] [] (shC, I, L, pX pa pb pu pw) = some (some (.int (if m (716 + k * 7) < m (715 + k * 7) then 0 else 1)), (shC, I, L, pX pa pb pu pw)) := by
  rw [B62_0_o3, g_of3_8_3 hk, h.1 _ (by omega)]
  dsimp only [Option.toList_some, List.cons_append, List.nil_append]
  rw [B62_7_o3, show (3 : Int32) + 1 = 4 from rfl, g_of3_8_4 hk, h.1 _ (by omega)]
  dsimp only [Option.toList_some, List.cons_append, List.nil_append]
  rw [B62_16_o3]
  by_cases q : m (716 + k * 7) < m (715 + k * 7)
  · rw [if_pos q, if_pos q, B62_24_o3, if_pos bl_0]
  · rw [if_neg q, if_neg q, B62_24_o3, if_pos bl_1]
theorem ord_8_5 (h : mT m I J) {k : Nat} (hk : k < 12) : jv (d + 1) 62 0 [some (.ref 3), some (.int 8), some (.int (nI k)), some (.int 5)] [] (shC, I, L, pX pa pb pu pw) = some (some (.int (if m (718 + k * 7) < m (717 + k * 7) then 0 else 1)), (shC, I, L, pX pa pb pu pw)) := by
  rw [B62_0_o3, g_of3_8_5 hk, h.1 _ (by omega)]
  dsimp only [Option.toList_some, List.cons_append, List.nil_append]
  rw [B62_7_o3, show (5 : Int32) + 1 = 6 from rfl, g_of3_8_6 hk, h.1 _ (by omega)]
  dsimp only [Option.toList_some, List.cons_append, List.nil_append]
  rw [B62_16_o3]
  by_cases q : m (718 + k * 7) < m (717 + k * 7)
  · rw [if_pos q, if_pos q, B62_24_o3, if_pos bl_0]
  · rw [if_neg q, if_neg q, B62_24_o3, if_pos bl_1]
/-- a row's judgement in both -/
def rwB (d e : Nat) (I J : Nat → Nat → Int32) (L L' : Nat → Nat → Int64) (pa pb pu pw : Option Nat) (t r : Nat) (b : Int32) : Prop := (b = 0 ∨ b = 1) ∧ jv (d + 5) 61 0 [some (.ref 3), some (.int (nI t)), some (.int (nI r))] [] (shC, I, L, pX pa pb pu pw) = some (some (.int b), (shC, I, L, pX pa pb pu pw)) ∧ jv (e + 5) 243 0 [some (.ref 0), some (.ref 7), some (.int (nI t)), some (.int (nI r)), none] [] (shR, J, L', pR) = some (some (.int b), (shR, J, L', pR))
theorem row_3 (h : mT m I J) {k : Nat} (hk : k < 24) : ∃ b, rwB d e I J L L' pa pb pu pw 3 k b := by
  have e1 : nI (280 + k * 5) + 1 = nI (281 + k * 5) := by rw [nI_1, show 280 + k * 5 + 1 = 281 + k * 5 by omega]
  have e2 : nI (280 + k * 5) + 2 = nI (282 + k * 5) := by rw [show nI (280 + k * 5) + 2 = nI (280 + k * 5 + 2) from nI_add _ 2, show 280 + k * 5 + 2 = 282 + k * 5 by omega]
  have hC : jv (d + 5) 61 0 [some (.ref 3), some (.int 3), some (.int (nI k))] [] (shC, I, L, pX pa pb pu pw) = some (some (.int (if m (280 + k * 5) = 0 then 1 else if m (282 + k * 5) < m (281 + k * 5) then 0 else 1)), (shC, I, L, pX pa pb pu pw)) := by
    rw [B61_0_o3, if_neg (by decide), if_pos (by decide), g_of3_3_0 hk, h.1 _ (by omega)]
    dsimp only [Option.toList_some, List.cons_append, List.nil_append]
    rw [B61_65_o3]
    by_cases q : m (280 + k * 5) = 0
    · rw [if_pos q, if_pos q, B61_78_o3, B61_83_o3, if_pos bl_1]
    · rw [if_neg q, if_neg q, jgo_some rfl (ord_3_1 h hk)]
      dsimp only [Option.toList_some, List.cons_append, List.nil_append]
      rw [B61_75_o3]
      by_cases q2 : m (282 + k * 5) < m (281 + k * 5)
      · rw [if_pos q2, if_pos rfl, B61_83_o3, if_pos bl_0]
      · rw [if_neg q2, if_neg (by decide), B61_78_o3, B61_83_o3, if_pos bl_1]
  have hR : jv (e + 5) 243 0 [some (.ref 0), some (.ref 7), some (.int 3), some (.int (nI k)), none] [] (shR, J, L', pR) = some (some (.int (if m (280 + k * 5) = 0 then 1 else if m (282 + k * 5) < m (281 + k * 5) then 0 else 1)), (shR, J, L', pR)) := by
    rw [B243_0_a7, g_at_3_0 h.2.2.2]
    dsimp only [Option.toList_some, List.cons_append, List.nil_append]
    rw [B243_7_a7, if_neg (by decide), if_pos (by decide), B243_90_a7, if_pos (j_in_nI (by omega) (by decide)), nI_clamp (n := 280 + k * 5) (by omega), h.2.1 _ (by omega)]
    by_cases q : m (280 + k * 5) = 0
    · rw [if_pos q, if_pos q, B243_112_a7, B243_117_a7, if_pos bl_1]
    · rw [if_neg q, if_neg q, e1, if_pos (j_in_nI (by omega) (by decide)), e2, if_pos (j_in_nI (by omega) (by decide)), nI_clamp (n := 281 + k * 5) (by omega), nI_clamp (n := 282 + k * 5) (by omega), h.2.1 (281 + k * 5) (by omega), h.2.1 (282 + k * 5) (by omega)]
      by_cases q2 : m (282 + k * 5) < m (281 + k * 5)
      · rw [if_pos q2, if_pos q2, B243_117_a7, if_pos bl_0]
      · rw [if_neg q2, if_neg q2, B243_112_a7, B243_117_a7, if_pos bl_1]
  refine ⟨_, ?_, hC, hR⟩
  split
  · exact Or.inr rfl
  · split
    · exact Or.inl rfl
    · exact Or.inr rfl
theorem row_6 (h : mT m I J) {k : Nat} (hk : k < 24) : ∃ b, rwB d e I J L L' pa pb pu pw 6 k b := by
  have e1 : nI (480 + k * 5) + 1 = nI (481 + k * 5) := by rw [nI_1, show 480 + k * 5 + 1 = 481 + k * 5 by omega]
  have e2 : nI (480 + k * 5) + 2 = nI (482 + k * 5) := by rw [show nI (480 + k * 5) + 2 = nI (480 + k * 5 + 2) from nI_add _ 2, show 480 + k * 5 + 2 = 482 + k * 5 by omega]
  have hC : jv (d + 5) 61 0 [some (.ref 3), some (.int 6), some (.int (nI k))] [] (shC, I, L, pX pa pb pu pw) = some (some (.int (if m (480 + k * 5) = 0 then 1 else if m (482 + k * 5) < m (481 + k * 5) then 0 else 1)), (shC, I, L, pX pa pb pu pw)) := by
    rw [B61_0_o3, if_neg (by decide), if_neg (by decide), if_neg (by decide), if_neg (by decide), if_pos (by decide), g_of3_6_0 hk, h.1 _ (by omega)]
    dsimp only [Option.toList_some, List.cons_append, List.nil_append]
    rw [B61_104_o3]
    by_cases q : m (480 + k * 5) = 0
    · rw [if_pos q, if_pos q, B61_118_o3, B61_123_o3, if_pos bl_1]
    · rw [if_neg q, if_neg q, jgo_some rfl (ord_6_1 h hk)]
      dsimp only [Option.toList_some, List.cons_append, List.nil_append]
      rw [B61_115_o3]
      by_cases q2 : m (482 + k * 5) < m (481 + k * 5)
      · rw [if_pos q2, if_pos rfl, B61_123_o3, if_pos bl_0]
      · rw [if_neg q2, if_neg (by decide), B61_118_o3, B61_123_o3, if_pos bl_1]
  have hR : jv (e + 5) 243 0 [some (.ref 0), some (.ref 7), some (.int 6), some (.int (nI k)), none] [] (shR, J, L', pR) = some (some (.int (if m (480 + k * 5) = 0 then 1 else if m (482 + k * 5) < m (481 + k * 5) then 0 else 1)), (shR, J, L', pR)) := by
    rw [B243_0_a7, g_at_6_0 h.2.2.2]
    dsimp only [Option.toList_some, List.cons_append, List.nil_append]
    rw [B243_7_a7, if_neg (by decide), if_neg (by decide), if_neg (by decide), if_neg (by decide), if_pos (by decide), B243_90_a7, if_pos (j_in_nI (by omega) (by decide)), nI_clamp (n := 480 + k * 5) (by omega), h.2.1 _ (by omega)]
    by_cases q : m (480 + k * 5) = 0
    · rw [if_pos q, if_pos q, B243_112_a7, B243_117_a7, if_pos bl_1]
    · rw [if_neg q, if_neg q, e1, if_pos (j_in_nI (by omega) (by decide)), e2, if_pos (j_in_nI (by omega) (by decide)), nI_clamp (n := 481 + k * 5) (by omega), nI_clamp (n := 482 + k * 5) (by omega), h.2.1 (481 + k * 5) (by omega), h.2.1 (482 + k * 5) (by omega)]
      by_cases q2 : m (482 + k * 5) < m (481 + k * 5)
      · rw [if_pos q2, if_pos q2, B243_117_a7, if_pos bl_0]
      · rw [if_neg q2, if_neg q2, B243_112_a7, B243_117_a7, if_pos bl_1]
  refine ⟨_, ?_, hC, hR⟩
  split
  · exact Or.inr rfl
  · split
    · exact Or.inl rfl
    · exact Or.inr rfl
theorem row_9 (h : mT m I J) {k : Nat} (hk : k < 6) : ∃ b, rwB d e I J L L' pa pb pu pw 9 k b := by
  refine ⟨1, Or.inr rfl, ?_, ?_⟩
  · show jv (d + 5) 61 0 [some (.ref 3), some (.int 9), some (.int (nI k))] [] (shC, I, L, pX pa pb pu pw) = _
    rw [B61_0_o3, if_neg (by decide), if_neg (by decide), if_neg (by decide), if_neg (by decide), if_neg (by decide), if_neg (by decide), if_neg (by decide), if_pos (by decide), B61_186_o3, if_pos bl_1]
  · show jv (e + 5) 243 0 [some (.ref 0), some (.ref 7), some (.int 9), some (.int (nI k)), none] [] (shR, J, L', pR) = _
    rw [B243_0_a7, g_at_9_0 h.2.2.2]
    dsimp only [Option.toList_some, List.cons_append, List.nil_append]
    rw [B243_7_a7, if_neg (by decide), if_neg (by decide), if_neg (by decide), if_neg (by decide), if_neg (by decide), if_neg (by decide), if_neg (by decide), if_pos (by decide), B243_342_a7, if_pos bl_1]
theorem row_8 (h : mT m I J) {k : Nat} (hk : k < 12) : ∃ b, rwB d e I J L L' pa pb pu pw 8 k b := by
  have ee : ∀ x, nI (712 + k * 7) + nI x = nI (712 + x + k * 7) := fun x => by rw [nI_add, show 712 + k * 7 + x = 712 + x + k * 7 by omega]
  have jj : ∀ x, x < 7 → j_in (nI (712 + x + k * 7)) 1189 = true := fun x hx => j_in_nI (by omega) (by decide)
  have hC : jv (d + 5) 61 0 [some (.ref 3), some (.int 8), some (.int (nI k))] [] (shC, I, L, pX pa pb pu pw) = some (some (.int (if m (712 + k * 7) = 0 then 1 else if m (714 + k * 7) < m (713 + k * 7) then 0 else if m (716 + k * 7) < m (715 + k * 7) then 0 else if m (718 + k * 7) < m (717 + k * 7) then 0 else 1)), (shC, I, L, pX pa pb pu pw)) := by
    rw [B61_0_o3, if_neg (by decide), if_neg (by decide), if_neg (by decide), if_neg (by decide), if_neg (by decide), if_neg (by decide), if_pos (by decide), g_of3_8_0 hk, h.1 _ (by omega)]
    dsimp only [Option.toList_some, List.cons_append, List.nil_append]
    rw [B61_138_o3]
    by_cases q : m (712 + k * 7) = 0
    · rw [if_pos q, if_pos q, B61_174_o3, B61_179_o3, if_pos bl_1]
    rw [if_neg q, if_neg q, jgo_some rfl (ord_8_1 h hk)]
    dsimp only [Option.toList_some, List.cons_append, List.nil_append]
    rw [B61_149_o3]
    by_cases q1 : m (714 + k * 7) < m (713 + k * 7)
    · rw [if_pos q1, if_pos q1, if_pos rfl, B61_178_o3, B61_179_o3, if_pos bl_0]
    rw [if_neg q1, if_neg q1, if_neg (by decide), jgo_some rfl (ord_8_3 h hk)]
    dsimp only [Option.toList_some, List.cons_append, List.nil_append]
    rw [B61_160_o3]
    by_cases q2 : m (716 + k * 7) < m (715 + k * 7)
    · rw [if_pos q2, if_pos q2, if_pos rfl, B61_178_o3, B61_179_o3, if_pos bl_0]
    rw [if_neg q2, if_neg q2, if_neg (by decide), jgo_some rfl (ord_8_5 h hk)]
    dsimp only [Option.toList_some, List.cons_append, List.nil_append]
    rw [B61_171_o3]
    by_cases q3 : m (718 + k * 7) < m (717 + k * 7)
    · rw [if_pos q3, if_pos rfl, B61_178_o3, B61_179_o3, if_pos bl_0]
    rw [if_neg q3, if_neg (by decide), B61_174_o3, B61_179_o3, if_pos bl_1]
  have hR : jv (e + 5) 243 0 [some (.ref 0), some (.ref 7), some (.int 8), some (.int (nI k)), none] [] (shR, J, L', pR) = some (some (.int (if m (712 + k * 7) = 0 then 1 else if m (714 + k * 7) < m (713 + k * 7) then 0 else if m (716 + k * 7) < m (715 + k * 7) then 0 else if m (718 + k * 7) < m (717 + k * 7) then 0 else 1)), (shR, J, L', pR)) := by
    rw [B243_0_a7, g_at_8_0 h.2.2.2]
    dsimp only [Option.toList_some, List.cons_append, List.nil_append]
    rw [B243_7_a7, if_neg (by decide), if_neg (by decide), if_neg (by decide), if_neg (by decide), if_neg (by decide), if_neg (by decide), if_pos (by decide), if_pos (jj 0 (by decide)), nI_clamp (n := 712 + k * 7) (by omega), h.2.1 _ (by omega)]
    by_cases q : m (712 + k * 7) = 0
    · rw [if_pos q, if_pos q, B243_308_a7, B243_313_a7, if_pos bl_1]
    rw [if_neg q, if_neg q, show nI (712 + k * 7) + 1 = nI (713 + k * 7) from ee 1, show nI (712 + k * 7) + 2 = nI (714 + k * 7) from ee 2, show nI (712 + k * 7) + 3 = nI (715 + k * 7) from ee 3, show nI (712 + k * 7) + 4 = nI (716 + k * 7) from ee 4, show nI (712 + k * 7) + 5 = nI (717 + k * 7) from ee 5, show nI (712 + k * 7) + 6 = nI (718 + k * 7) from ee 6, if_pos (jj 1 (by decide)), if_pos (jj 2 (by decide)), nI_clamp (n := 713 + k * 7) (by omega), nI_clamp (n := 714 + k * 7) (by omega), h.2.1 (713 + k * 7) (by omega), h.2.1 (714 + k * 7) (by omega)]
    by_cases q1 : m (714 + k * 7) < m (713 + k * 7)
    · rw [if_pos q1, if_pos q1, B243_312_a7, B243_313_a7, if_pos bl_0]
    rw [if_neg q1, if_neg q1, if_pos (jj 3 (by decide)), if_pos (jj 4 (by decide)), nI_clamp (n := 715 + k * 7) (by omega), nI_clamp (n := 716 + k * 7) (by omega), h.2.1 (715 + k * 7) (by omega), h.2.1 (716 + k * 7) (by omega)]
    by_cases q2 : m (716 + k * 7) < m (715 + k * 7)
    · rw [if_pos q2, if_pos q2, B243_312_a7, B243_313_a7, if_pos bl_0]
    rw [if_neg q2, if_neg q2, if_pos (jj 5 (by decide)), if_pos (jj 6 (by decide)), nI_clamp (n := 717 + k * 7) (by omega), nI_clamp (n := 718 + k * 7) (by omega), h.2.1 (717 + k * 7) (by omega), h.2.1 (718 + k * 7) (by omega)]
    by_cases q3 : m (718 + k * 7) < m (717 + k * 7)
    · rw [if_pos q3, if_pos q3, B243_312_a7, B243_313_a7, if_pos bl_0]
    rw [if_neg q3, if_neg q3, B243_308_a7, B243_313_a7, if_pos bl_1]
  refine ⟨_, ?_, hC, hR⟩
  repeat' split
  all_goals first | exact Or.inl rfl | exact Or.inr rfl
end ROWD
