/-! ROWS: fills, openings, plates -/
section ROWE
variable {d e : Nat} {I J : Nat → Nat → Int32} {L L' : Nat → Nat → Int64} {pa pb pu pw : Option Nat} {m : Nat → Int32}
theorem kind_c (h : mT m I J) {p : Nat} (hp : p < 16) : jv (d + 1) 54 0 [some (.ref 3), some (.int (nI p))] [] (shC, I, L, pX pa pb pu pw) = some (some (.int (m (152 + p * 8))), (shC, I, L, pX pa pb pu pw)) := by
  rw [B54_0_o3, if_neg (nI_pos (by omega)), if_pos (by decide), if_pos (show nI p < (z_0.getD (2 : Int32).toNatClampNeg 0) from nI_lt (b := 16) hp (by decide)), g_of3_2_0 hp, h.1 _ (by omega)]
  dsimp only [Option.toList_some, List.cons_append, List.nil_append]
  rw [B54_20_o3, B54_24_o3]
theorem row_4 (h : mT m I J) {k : Nat} (hk : k < 16) : ∃ b, rwB d e I J L L' pa pb pu pw 4 k b := by
  obtain ⟨R, r1, r2, r3⟩ := room_sim (d := d + 1) (e := e + 2) (L := L) (L' := L') (pa := pa) (pb := pb) (pu := pu) (pw := pw) h hk
  have hF : jv (d + 4) 65 0 [some (.ref 3), some (.int (nI k)), none] [] (shC, I, L, pX pa pb pu pw) = some (some (.int (if m (400 + k * 2) = 0 then 1 else if m (152 + k * 8) = 2 then (if nI R < m (400 + k * 2) then 0 else 1) else 0)), (shC, I, L, pX pa pb pu pw)) := by
    rw [B65_0_o3, g_of3_4_0 hk, h.1 _ (by omega)]
    dsimp only [Option.toList_some, List.cons_append, List.nil_append]
    rw [B65_7_o3]
    by_cases q : m (400 + k * 2) = 0
    · rw [if_pos q, if_pos q, B65_30_o3, B65_35_o3, if_pos bl_1]
    rw [if_neg q, if_neg q, jgo_some rfl (kind_c h hk)]
    dsimp only [Option.toList_some, List.cons_append, List.nil_append]
    rw [B65_17_o3]
    by_cases q1 : m (152 + k * 8) = 2
    · rw [if_pos q1, if_pos q1, jgo_some rfl r2]
      dsimp only [Option.toList_some, List.cons_append, List.nil_append]
      rw [B65_27_o3]
      by_cases q2 : nI R < m (400 + k * 2)
      · rw [if_pos q2, if_pos q2, B65_34_o3, B65_35_o3, if_pos bl_0]
      · rw [if_neg q2, if_neg q2, B65_30_o3, B65_35_o3, if_pos bl_1]
    · rw [if_neg q1, if_neg q1, B65_34_o3, B65_35_o3, if_pos bl_0]
  have hb : (if m (400 + k * 2) = 0 then (1 : Int32) else if m (152 + k * 8) = 2 then (if nI R < m (400 + k * 2) then 0 else 1) else 0) = 0 ∨ (if m (400 + k * 2) = 0 then (1 : Int32) else if m (152 + k * 8) = 2 then (if nI R < m (400 + k * 2) then 0 else 1) else 0) = 1 := by
    repeat' split
    all_goals first | exact Or.inl rfl | exact Or.inr rfl
  refine ⟨_, hb, ?_, ?_⟩
  · show jv (d + 5) 61 0 [some (.ref 3), some (.int 4), some (.int (nI k))] [] (shC, I, L, pX pa pb pu pw) = _
    rw [B61_0_o3, if_neg (by decide), if_neg (by decide), if_pos (by decide), jgo_some rfl hF]
    dsimp only [Option.toList_some, List.cons_append, List.nil_append]
    rw [B61_89_o3, if_pos]
    rcases hb with z | z
    · rw [z]; exact bl_0
    · rw [z]; exact bl_1
  · show jv (e + 5) 243 0 [some (.ref 0), some (.ref 7), some (.int 4), some (.int (nI k)), none] [] (shR, J, L', pR) = _
    rw [B243_0_a7, g_at_4_0 h.2.2.2]
    dsimp only [Option.toList_some, List.cons_append, List.nil_append]
    rw [B243_7_a7, if_neg (by decide), if_neg (by decide), if_pos (by decide), if_pos (j_in_nI (by omega) (by decide)), nI_clamp (n := 400 + k * 2) (by omega), h.2.1 _ (by omega)]
    by_cases q : m (400 + k * 2) = 0
    · rw [if_pos q, if_pos q, B243_151_a7, B243_156_a7, if_pos bl_1]
    rw [if_neg q, if_neg q, g_at_2_0 h.2.2.2]
    dsimp only [Option.toList_some, List.cons_append, List.nil_append]
    rw [B243_133_a7, if_pos (j_in_nI (by omega) (by decide)), nI_clamp (n := 152 + k * 8) (by omega), h.2.1 (152 + k * 8) (by omega)]
    by_cases q1 : m (152 + k * 8) = 2
    · rw [if_pos q1, if_pos q1, if_pos (j_in_nI (by omega) (by decide)), nI_clamp (n := 400 + k * 2) (by omega), h.2.1 (400 + k * 2) (by omega), jgo_some rfl r3]
      dsimp only [Option.toList_some, List.cons_append, List.nil_append]
      rw [B243_148_a7]
      by_cases q2 : nI R < m (400 + k * 2)
      · rw [if_pos q2, if_pos q2, B243_155_a7, B243_156_a7, if_pos bl_0]
      · rw [if_neg q2, if_neg q2, B243_151_a7, B243_156_a7, if_pos bl_1]
    · rw [if_neg q1, if_neg q1, B243_155_a7, B243_156_a7, if_pos bl_0]
theorem mT.open_ (h : mT m I J) {k : Nat} (hk : k < 8) : (m (436 + k * 6) = -1 ∨ ∃ x, x ≤ 15 ∧ m (436 + k * 6) = nI x) ∧ ∃ y, y ≤ 15 ∧ m (437 + k * 6) = nI y := by
  constructor
  · have h1 := (h.2.2.1 (436 + k * 6) (by omega)).1 5 k 4 (by decide) hk (by decide) (show 436 + k * 6 = 432 + k * 6 + 4 by omega)
    unfold mbv at h1
    rw [show leastv 5 4 = -1 by decide, show mostv 5 4 = nI 15 by decide] at h1
    by_cases q : m (436 + k * 6) < -1
    · rw [if_pos q] at h1; exact absurd h1 (by decide)
    rw [if_neg q] at h1
    by_cases q2 : nI 15 < m (436 + k * 6)
    · rw [if_pos q2] at h1; exact absurd h1 (by decide)
    by_cases q3 : m (436 + k * 6) < 0
    · left
      apply Int32.toInt_inj.mp
      have a1 : ¬ (m (436 + k * 6)).toInt < (-1 : Int32).toInt := fun z => q (Int32.lt_iff_toInt_lt.mpr z)
      have a2 : (m (436 + k * 6)).toInt < (0 : Int32).toInt := Int32.lt_iff_toInt_lt.mp q3
      have b1 : (-1 : Int32).toInt = -1 := by decide
      have b2 : (0 : Int32).toInt = 0 := by decide
      omega
    · right
      obtain ⟨j, j1, j2⟩ := nI_of q3
      rw [j2] at q2 ⊢
      refine ⟨j, ?_, rfl⟩
      by_cases q4 : 15 < j
      · exact absurd (nI_lt q4 j1) q2
      · omega
  · exact ok_n (h.2.2.1 (437 + k * 6) (by omega)) (a := 5) (b := k) (c := 5) (by decide) hk (by decide) (show 437 + k * 6 = 432 + k * 6 + 5 by omega) (by decide) (by decide) (by decide)
theorem row_5 (h : mT m I J) {k : Nat} (hk : k < 8) : ∃ b, rwB d e I J L L' pa pb pu pw 5 k b := by
  obtain ⟨hx, y, y1, y2⟩ := h.open_ hk
  have e4 : nI (432 + k * 6) + 4 = nI (436 + k * 6) := by rw [show nI (432 + k * 6) + 4 = nI (432 + k * 6 + 4) from nI_add _ 4, show 432 + k * 6 + 4 = 436 + k * 6 by omega]
  have e5 : nI (432 + k * 6) + 5 = nI (437 + k * 6) := by rw [show nI (432 + k * 6) + 5 = nI (432 + k * 6 + 5) from nI_add _ 5, show 432 + k * 6 + 5 = 437 + k * 6 by omega]
  have both : ∃ b : Int32, (b = 0 ∨ b = 1) ∧ jv (d + 4) 66 0 [some (.ref 3), some (.int (nI k)), none, none] [] (shC, I, L, pX pa pb pu pw) = some (some (.int b), (shC, I, L, pX pa pb pu pw)) ∧ jv (e + 5) 243 0 [some (.ref 0), some (.ref 7), some (.int 5), some (.int (nI k)), none] [] (shR, J, L', pR) = some (some (.int b), (shR, J, L', pR)) := by
    rw [B66_0_o3, g_of3_5_0 hk, h.1 _ (by omega), B243_0_a7, g_at_5_0 h.2.2.2]
    dsimp only [Option.toList_some, List.cons_append, List.nil_append]
    rw [B66_7_o3, B243_7_a7, if_neg (show ¬ (5 : Int32) = Int32.ofInt 2 by decide), if_neg (show ¬ (5 : Int32) = Int32.ofInt 3 by decide), if_neg (show ¬ (5 : Int32) = Int32.ofInt 4 by decide), if_pos (show (5 : Int32) = Int32.ofInt 5 by decide), if_pos (j_in_nI (show 432 + k * 6 < 1189 by omega) (by decide)), nI_clamp (n := 432 + k * 6) (by omega), h.2.1 _ (by omega)]
    by_cases q : m (432 + k * 6) = 0
    · rw [if_pos q, if_pos q, if_pos bl_1, B243_223_a7, B243_228_a7, if_pos bl_1]
      exact ⟨1, Or.inr rfl, rfl, rfl⟩
    rw [if_neg q, if_neg q, g_of3_5_4 hk, h.1 _ (by omega), e5, if_pos (j_in_nI (by omega) (by decide)), nI_clamp (n := 437 + k * 6) (by omega), h.2.1 _ (by omega), y2, g_at_2_0 h.2.2.2]
    dsimp only [Option.toList_some, List.cons_append, List.nil_append]
    rw [B66_19_o3, g_of3_5_5 hk, h.1 _ (by omega), y2]
    dsimp only [Option.toList_some, List.cons_append, List.nil_append]
    rw [B66_27_o3, jgo_some (k' := 54) rfl (kind_c h (by omega : y < 16))]
    dsimp only [Option.toList_some, List.cons_append, List.nil_append]
    rw [B66_33_o3, B243_177_a7, if_pos (j_in_nI (by omega) (by decide)), nI_clamp (n := 152 + y * 8) (by omega), h.2.1 (152 + y * 8) (by omega)]
    by_cases q1 : 0 < m (152 + y * 8)
    · rw [if_pos q1, if_pos q1, e4, if_pos (j_in_nI (by omega) (by decide)), nI_clamp (n := 436 + k * 6) (by omega), h.2.1 (436 + k * 6) (by omega)]
      by_cases q2 : m (436 + k * 6) = -1
      · rw [if_pos q2, if_pos q2, B66_54_o3, B66_59_o3, if_pos bl_1, B243_223_a7, B243_228_a7, if_pos bl_1]
        exact ⟨1, Or.inr rfl, rfl, rfl⟩
      · obtain ⟨x, x1, x2⟩ := hx.resolve_left q2
        rw [if_neg q2, if_neg q2, if_pos (j_in_nI (by omega) (by decide)), e5, if_pos (j_in_nI (by omega) (by decide)), nI_clamp (n := 437 + k * 6) (by omega), h.2.1 (437 + k * 6) (by omega), y2]
        by_cases q3 : m (436 + k * 6) = nI y
        · rw [if_pos q3, if_pos q3, B66_58_o3, B66_59_o3, if_pos bl_0, B243_227_a7, B243_228_a7, if_pos bl_0]
          exact ⟨0, Or.inl rfl, rfl, rfl⟩
        · rw [if_neg q3, if_neg q3, if_pos (j_in_nI (by omega) (by decide)), x2, jgo_some (k' := 54) rfl (kind_c h (by omega : x < 16)), g_at_2_0 h.2.2.2]
          dsimp only [Option.toList_some, List.cons_append, List.nil_append]
          rw [B66_51_o3, B243_219_a7, if_pos (j_in_nI (by omega) (by decide)), nI_clamp (n := 152 + x * 8) (by omega), h.2.1 (152 + x * 8) (by omega)]
          by_cases q4 : 0 < m (152 + x * 8)
          · rw [if_pos q4, if_pos q4, B66_54_o3, B66_59_o3, if_pos bl_1, B243_223_a7, B243_228_a7, if_pos bl_1]
            exact ⟨1, Or.inr rfl, rfl, rfl⟩
          · rw [if_neg q4, if_neg q4, B66_58_o3, B66_59_o3, if_pos bl_0, B243_227_a7, B243_228_a7, if_pos bl_0]
            exact ⟨0, Or.inl rfl, rfl, rfl⟩
    · rw [if_neg q1, if_neg q1, B66_58_o3, B66_59_o3, if_pos bl_0, B243_227_a7, B243_228_a7, if_pos bl_0]
      exact ⟨0, Or.inl rfl, rfl, rfl⟩
  obtain ⟨b, b1, b2, b3⟩ := both
  refine ⟨b, b1, ?_, b3⟩
  show jv (d + 5) 61 0 [some (.ref 3), some (.int 5), some (.int (nI k))] [] (shC, I, L, pX pa pb pu pw) = _
  rw [B61_0_o3, if_neg (by decide), if_neg (by decide), if_neg (by decide), if_pos (by decide), jgo_some rfl b2]
  dsimp only [Option.toList_some, List.cons_append, List.nil_append]
  rw [B61_95_o3, if_pos]
  rcases b1 with z | z
  · rw [z]; exact bl_0
  · rw [z]; exact bl_1
end ROWE
