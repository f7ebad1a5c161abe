/-! RULES: a space's room in the kept model -/
section EVAW
variable {d e : Nat} {I J : Nat → Nat → Int32} {L L' : Nat → Nat → Int64} {pa pb pu pw : Option Nat} {K : Option Value → jS → jO}
theorem g_of1Q_2_0 {k : Nat} (hk : k < 16) : jgo jTT jMM (d + 1) 51 [.ref 1, .int 2, .int (nI k), .int 0] (shC, I, L, pX pa pb pu pw) K = K (some (.int (I 2 (152 + k * 8)))) (shC, I, L, pX pa pb pu pw) := by rw [← pl_2_0 k]; exact jgo_some rfl (of_1 (a := 2) (b := k) (c := 0) (by decide) hk (by decide) none)
theorem g_of1Q_2_1 {k : Nat} (hk : k < 16) : jgo jTT jMM (d + 1) 51 [.ref 1, .int 2, .int (nI k), .int 1] (shC, I, L, pX pa pb pu pw) K = K (some (.int (I 2 (153 + k * 8)))) (shC, I, L, pX pa pb pu pw) := by rw [← pl_2_1 k]; exact jgo_some rfl (of_1 (a := 2) (b := k) (c := 1) (by decide) hk (by decide) none)
theorem g_of1Q_2_2 {k : Nat} (hk : k < 16) : jgo jTT jMM (d + 1) 51 [.ref 1, .int 2, .int (nI k), .int 2] (shC, I, L, pX pa pb pu pw) K = K (some (.int (I 2 (154 + k * 8)))) (shC, I, L, pX pa pb pu pw) := by rw [← pl_2_2 k]; exact jgo_some rfl (of_1 (a := 2) (b := k) (c := 2) (by decide) hk (by decide) none)
theorem g_of1Q_2_3 {k : Nat} (hk : k < 16) : jgo jTT jMM (d + 1) 51 [.ref 1, .int 2, .int (nI k), .int 3] (shC, I, L, pX pa pb pu pw) K = K (some (.int (I 2 (155 + k * 8)))) (shC, I, L, pX pa pb pu pw) := by rw [← pl_2_3 k]; exact jgo_some rfl (of_1 (a := 2) (b := k) (c := 3) (by decide) hk (by decide) none)
theorem g_of1Q_2_4 {k : Nat} (hk : k < 16) : jgo jTT jMM (d + 1) 51 [.ref 1, .int 2, .int (nI k), .int 4] (shC, I, L, pX pa pb pu pw) K = K (some (.int (I 2 (156 + k * 8)))) (shC, I, L, pX pa pb pu pw) := by rw [← pl_2_4 k]; exact jgo_some rfl (of_1 (a := 2) (b := k) (c := 4) (by decide) hk (by decide) none)
theorem g_of1Q_2_5 {k : Nat} (hk : k < 16) : jgo jTT jMM (d + 1) 51 [.ref 1, .int 2, .int (nI k), .int 5] (shC, I, L, pX pa pb pu pw) K = K (some (.int (I 2 (157 + k * 8)))) (shC, I, L, pX pa pb pu pw) := by rw [← pl_2_5 k]; exact jgo_some rfl (of_1 (a := 2) (b := k) (c := 5) (by decide) hk (by decide) none)
theorem g_of1Q_2_6 {k : Nat} (hk : k < 16) : jgo jTT jMM (d + 1) 51 [.ref 1, .int 2, .int (nI k), .int 6] (shC, I, L, pX pa pb pu pw) K = K (some (.int (I 2 (158 + k * 8)))) (shC, I, L, pX pa pb pu pw) := by rw [← pl_2_6 k]; exact jgo_some rfl (of_1 (a := 2) (b := k) (c := 6) (by decide) hk (by decide) none)
theorem g_of1Q_2_7 {k : Nat} (hk : k < 16) : jgo jTT jMM (d + 1) 51 [.ref 1, .int 2, .int (nI k), .int 7] (shC, I, L, pX pa pb pu pw) K = K (some (.int (I 2 (159 + k * 8)))) (shC, I, L, pX pa pb pu pw) := by rw [← pl_2_7 k]; exact jgo_some rfl (of_1 (a := 2) (b := k) (c := 7) (by decide) hk (by decide) none)
end EVAW
section EVAX
variable {d e : Nat} {I J : Nat → Nat → Int32} {L L' : Nat → Nat → Int64} {pa pb pu pw : Option Nat} {m : Nat → Int32}
def mQ (m : Nat → Int32) (I J : Nat → Nat → Int32) : Prop := (∀ q, q < 1189 → I 2 q = m q) ∧ (∀ q, q < 1189 → J 6 q = m q) ∧ (∀ q, q < 1189 → okV q (m q)) ∧ rCst J
theorem mQ.hull (h : mQ m I J) {s x : Nat} (hs : s < 16) (hx : x < 9) : ∃ k, k ≤ 2000 ∧ m (8 + s * 9 + x) = nI k := by
  have hq : 8 + s * 9 + x < 1189 := by omega
  have : x = 0 ∨ x = 1 ∨ x = 2 ∨ x = 3 ∨ x = 4 ∨ x = 5 ∨ x = 6 ∨ x = 7 ∨ x = 8 := by omega
  refine ok_n (h.2.2.1 _ hq) (a := 1) (b := s) (c := x) (by decide) hs hx rfl ?_ ?_ (by decide)
  · rcases this with rfl | rfl | rfl | rfl | rfl | rfl | rfl | rfl | rfl <;> decide
  · rcases this with rfl | rfl | rfl | rfl | rfl | rfl | rfl | rfl | rfl <;> decide
theorem mQ.space (h : mQ m I J) {p : Nat} (hp : p < 16) : ∃ f0 f1 f2 f3 f4 f5 f6, f0 ≤ 2 ∧ f1 ≤ 15 ∧ f2 ≤ 15 ∧ f3 ≤ 15 ∧ f4 ≤ 15 ∧ f5 ≤ 2000 ∧ f6 ≤ 2000 ∧ m (152 + p * 8) = nI f0 ∧ m (153 + p * 8) = nI f1 ∧ m (154 + p * 8) = nI f2 ∧ m (155 + p * 8) = nI f3 ∧ m (156 + p * 8) = nI f4 ∧ m (157 + p * 8) = nI f5 ∧ m (158 + p * 8) = nI f6 := by
  have one : ∀ x N, x < 8 → N < 2 ^ 31 → leastv 2 x = 0 → mostv 2 x = nI N → ∃ k, k ≤ N ∧ m (152 + p * 8 + x) = nI k := fun x N hx hN h1 h2 => ok_n (h.2.2.1 _ (by omega)) (a := 2) (b := p) (c := x) (by decide) hp hx rfl h1 h2 hN
  obtain ⟨f0, a0, b0⟩ := one 0 2 (by decide) (by decide) (by decide) (by decide)
  obtain ⟨f1, a1, b1⟩ := one 1 15 (by decide) (by decide) (by decide) (by decide)
  obtain ⟨f2, a2, b2⟩ := one 2 15 (by decide) (by decide) (by decide) (by decide)
  obtain ⟨f3, a3, b3⟩ := one 3 15 (by decide) (by decide) (by decide) (by decide)
  obtain ⟨f4, a4, b4⟩ := one 4 15 (by decide) (by decide) (by decide) (by decide)
  obtain ⟨f5, a5, b5⟩ := one 5 2000 (by decide) (by decide) (by decide) (by decide)
  obtain ⟨f6, a6, b6⟩ := one 6 2000 (by decide) (by decide) (by decide) (by decide)
  refine ⟨f0, f1, f2, f3, f4, f5, f6, a0, a1, a2, a3, a4, a5, a6, ?_, ?_, ?_, ?_, ?_, ?_, ?_⟩
  · rw [← b0, Nat.add_zero]
  · rw [← b1]; congr 1; omega
  · rw [← b2]; congr 1; omega
  · rw [← b3]; congr 1; omega
  · rw [← b4]; congr 1; omega
  · rw [← b5]; congr 1; omega
  · rw [← b6]; congr 1; omega
theorem btmQ_c (h : mQ m I J) {s c : Nat} (hs : s < 16) (hc : c < 16) : jv (d + 1) 56 0 [some (.ref 1), some (.int (nI s)), some (.int (nI c))] [] (shC, I, L, pX pa pb pu pw) = some (some (.int (m (8 + s * 9 + btX c))), (shC, I, L, pX pa pb pu pw)) := by
  have hx := btX_lt hc
  have g : ∀ K, jgo jTT jMM (d + 1) 51 [.ref 1, .int 1, .int (nI s), .int (nI (btX c))] (shC, I, L, pX pa pb pu pw) K = K (some (.int (I 2 (8 + s * 9 + btX c)))) (shC, I, L, pX pa pb pu pw) := fun K => jgo_some rfl (of_1 (a := 1) (b := s) (c := btX c) (by decide) hs (show btX c < 9 by omega) none)
  have key : jv (d + 1) 56 0 [some (.ref 1), some (.int (nI s)), some (.int (nI c))] [] (shC, I, L, pX pa pb pu pw) = jv (d + 1) 56 20 [some (.ref 1), some (.int (nI s)), some (.int (nI c))] [.int (nI (btX c)), .int (nI s), .int 1, .ref 1] (shC, I, L, pX pa pb pu pw) := by
    rw [B56_0_o1]
    unfold btX
    by_cases q : c < 8
    · rw [if_pos (show nI c < 8 from nI_lt (b := 8) q (by decide)), if_pos q, show 7 - nI c = nI (7 - c) from nI_sub (a := 7) (by omega)]
    · rw [if_neg (show ¬ nI c < 8 from nI_nlt (b := 8) (by omega) (by omega)), if_neg q, show nI c - 8 = nI (c - 8) from nI_sub (b := 8) (by omega)]
  rw [key, B56_20_o1, g]
  dsimp only [Option.toList_some, List.cons_append, List.nil_append]
  rw [B56_23_o1, h.1 _ (by omega)]
theorem btmQ_r (h : mQ m I J) {s c : Nat} (hs : s < 16) (hc : c < 16) : jv (e + 1) 247 0 [some (.ref 0), some (.ref 6), some (.int (nI s)), some (.int (nI c))] [] (shR, J, L', pR) = some (some (.int (m (8 + s * 9 + btX c))), (shR, J, L', pR)) := by
  have hx := btX_lt hc
  have g : ∀ K, jgo jTT jMM (e + 1) 214 [.ref 0, .int 1, .int (nI s), .int (nI (btX c))] (shR, J, L', pR) K = K (some (.int (nI (8 + s * 9 + btX c)))) (shR, J, L', pR) := fun K => jgo_some rfl (at_ok h.2.2.2 (t := 1) (by decide) s (btX c))
  have key : jv (e + 1) 247 0 [some (.ref 0), some (.ref 6), some (.int (nI s)), some (.int (nI c))] [] (shR, J, L', pR) = jv (e + 1) 247 21 [some (.ref 0), some (.ref 6), some (.int (nI s)), some (.int (nI c))] [.int (nI (btX c)), .int (nI s), .int 1, .ref 0, .ref 6] (shR, J, L', pR) := by
    rw [B247_0_a6]
    unfold btX
    by_cases q : c < 8
    · rw [if_pos (show nI c < 8 from nI_lt (b := 8) q (by decide)), if_pos q, show 7 - nI c = nI (7 - c) from nI_sub (a := 7) (by omega)]
    · rw [if_neg (show ¬ nI c < 8 from nI_nlt (b := 8) (by omega) (by omega)), if_neg q, show nI c - 8 = nI (c - 8) from nI_sub (b := 8) (by omega)]
  rw [key, B247_21_a6, g]
  dsimp only [Option.toList_some, List.cons_append, List.nil_append]
  rw [B247_24_a6, if_pos (j_in_nI (by omega) (by decide)), nI_clamp (n := 8 + s * 9 + btX c) (by omega), h.2.1 _ (by omega)]
/-- what a column adds to the room -/
theorem deckQ_c (h : mQ m I J) {s : Nat} (hs : s < 16) : jv (d + 1) 57 0 [some (.ref 1), some (.int (nI s))] [] (shC, I, L, pX pa pb pu pw) = some (some (.int (m (8 + s * 9 + 8))), (shC, I, L, pX pa pb pu pw)) := by
  have g : ∀ K, jgo jTT jMM (d + 1) 51 [.ref 1, .int 1, .int (nI s), .int 8] (shC, I, L, pX pa pb pu pw) K = K (some (.int (I 2 (8 + s * 9 + 8)))) (shC, I, L, pX pa pb pu pw) := fun K => jgo_some rfl (of_1 (a := 1) (b := s) (c := 8) (by decide) hs (by decide) none)
  rw [B57_0_o1, g]
  dsimp only [Option.toList_some, List.cons_append, List.nil_append]
  rw [B57_8_o1, h.1 _ (by omega)]
/-- one slice -/
theorem rmQ_x (h : mQ m I J) {p s f3 f4 f5 f6 dk acc : Nat} (hp : p < 16) (hs : s < 16) (h3 : f3 ≤ 15) (h4 : f4 ≤ 15) (h5 : f5 ≤ 2000) (h6 : f6 ≤ 2000) (hd : dk ≤ 2000) (m4 : m (156 + p * 8) = nI f4) (m5 : m (157 + p * 8) = nI f5) (m6 : m (158 + p * 8) = nI f6) (md : m (8 + s * 9 + 8) = nI dk) (o7 o8 : Option Value) : ∃ acc' o5 o6 q7 q8, acc' ≤ acc + 32000 ∧ jv (d + 2) 58 48 [some (.ref 1), some (.int (nI p)), some (.int (nI acc)), some (.int (nI s)), some (.int (nI (min dk f6))), some (.int (nI f3))] [] (shC, I, L, pX pa pb pu pw) = jv (d + 2) 58 10 [some (.ref 1), some (.int (nI p)), some (.int (nI acc')), some (.int (nI (s + 1))), o5, o6] [] (shC, I, L, pX pa pb pu pw) ∧ jv (e + 2) 248 35 [some (.ref 0), some (.ref 6), some (.int (nI p)), some (.int (nI (152 + p * 8))), some (.int (nI acc)), some (.int (nI s)), some (.int (nI f3)), o7, o8] [] (shR, J, L', pR) = jv (e + 2) 248 18 [some (.ref 0), some (.ref 6), some (.int (nI p)), some (.int (nI (152 + p * 8))), some (.int (nI acc')), some (.int (nI (s + 1))), some (.int (nI (f3 + (f4 + 1 - f3)))), q7, q8] [] (shR, J, L', pR) := by
  have e4 : nI (152 + p * 8) + 4 = nI (156 + p * 8) := by rw [show nI (152 + p * 8) + 4 = nI (152 + p * 8 + 4) from nI_add _ 4, show 152 + p * 8 + 4 = 156 + p * 8 by omega]
  have e5 : nI (152 + p * 8) + 5 = nI (157 + p * 8) := by rw [show nI (152 + p * 8) + 5 = nI (152 + p * 8 + 5) from nI_add _ 5, show 152 + p * 8 + 5 = 157 + p * 8 by omega]
  have e6 : nI (152 + p * 8) + 6 = nI (158 + p * 8) := by rw [show nI (152 + p * 8) + 6 = nI (152 + p * 8 + 6) from nI_add _ 6, show 152 + p * 8 + 6 = 158 + p * 8 by omega]
  have gd : ∀ K, jgo jTT jMM (e + 2) 214 [.ref 0, .int 1, .int (nI s), .int 8] (shR, J, L', pR) K = K (some (.int (nI (8 + s * 9 + 8)))) (shR, J, L', pR) := fun K => jgo_some rfl (at_ok h.2.2.2 (t := 1) (by decide) s 8)
  obtain ⟨⟨acc', q7, q8⟩, a1, a2, a3⟩ := j_run2 (α := Nat × Option Value × Option Value) (fun i t => jv (d + 2) 58 48 [some (.ref 1), some (.int (nI p)), some (.int (nI t.1)), some (.int (nI s)), some (.int (nI (min dk f6))), some (.int (nI (f3 + i)))] [] (shC, I, L, pX pa pb pu pw)) (fun i t => jv (e + 2) 248 35 [some (.ref 0), some (.ref 6), some (.int (nI p)), some (.int (nI (152 + p * 8))), some (.int (nI t.1)), some (.int (nI s)), some (.int (nI (f3 + i))), t.2.1, t.2.2] [] (shR, J, L', pR)) (fun i t => t.1 ≤ acc + 2000 * i) (f4 + 1 - f3) (fun i hi t ht => by
    obtain ⟨a, q7, q8⟩ := t
    dsimp only at ht ⊢
    obtain ⟨bt, hb, mb⟩ := h.hull hs (show btX (f3 + i) < 9 from Nat.lt_of_lt_of_le (btX_lt (by omega)) (by decide))
    refine ⟨(a + (min dk f6 - max bt f5), some (.int (nI (max bt f5))), some (.int (nI (min dk f6)))), by dsimp only; omega, ?_, ?_⟩
    · dsimp only
      rw [B58_48_o1, g_of1Q_2_4 hp, h.1 _ (by omega), m4]
      dsimp only [Option.toList_some, List.cons_append, List.nil_append]
      rw [B58_57_o1, if_neg (nI_nlt (by omega) (by omega)), jgo_some rfl (btmQ_c h hs (by omega)), mb]
      dsimp only [Option.toList_some, List.cons_append, List.nil_append]
      rw [B58_71_o1, g_of1Q_2_5 hp, h.1 _ (by omega), m5]
      dsimp only [Option.toList_some, List.cons_append, List.nil_append]
      rw [B58_78_o1, rm_c (by omega) hb h5, nI_1]
      rfl
    · dsimp only
      rw [B248_35_a6, e4, if_pos (j_in_nI (by omega) (by decide)), nI_clamp (n := 156 + p * 8) (by omega), h.2.1 _ (by omega), m4, if_neg (nI_nlt (by omega) (by omega)), jgo_some rfl (btmQ_r h hs (by omega)), mb]
      dsimp only [Option.toList_some, List.cons_append, List.nil_append]
      have k1 : jv (e + 2) 248 54 [some (.ref 0), some (.ref 6), some (.int (nI p)), some (.int (nI (152 + p * 8))), some (.int (nI a)), some (.int (nI s)), some (.int (nI (f3 + i))), q7, q8] [.int (nI bt)] (shR, J, L', pR) = jv (e + 2) 248 79 [some (.ref 0), some (.ref 6), some (.int (nI p)), some (.int (nI (152 + p * 8))), some (.int (nI a)), some (.int (nI s)), some (.int (nI (f3 + i))), q7, q8] [.int (nI (max bt f5))] (shR, J, L', pR) := by
        rw [B248_54_a6, e5, if_pos (j_in_nI (by omega) (by decide)), nI_clamp (n := 157 + p * 8) (by omega), h.2.1 _ (by omega), m5]
        by_cases q : f5 < bt
        · rw [if_pos (nI_lt q (by omega)), jgo_some rfl (btmQ_r h hs (by omega)), mb]
          dsimp only [Option.toList_some, List.cons_append, List.nil_append]
          rw [B248_71_a6, Nat.max_eq_left (by omega)]
        · rw [if_neg (nI_nlt (by omega) (by omega)), if_pos (j_in_nI (by omega) (by decide)), Nat.max_eq_right (by omega)]
      have k2 : jv (e + 2) 248 91 [some (.ref 0), some (.ref 6), some (.int (nI p)), some (.int (nI (152 + p * 8))), some (.int (nI a)), some (.int (nI s)), some (.int (nI (f3 + i))), some (.int (nI (max bt f5))), q8] [.int (nI (8 + s * 9 + 8)), .ref 6] (shR, J, L', pR) = jv (e + 2) 248 121 [some (.ref 0), some (.ref 6), some (.int (nI p)), some (.int (nI (152 + p * 8))), some (.int (nI a)), some (.int (nI s)), some (.int (nI (f3 + i))), some (.int (nI (max bt f5))), q8] [.int (nI (min dk f6))] (shR, J, L', pR) := by
        rw [B248_91_a6, if_pos (j_in_nI (by omega) (by decide)), nI_clamp (n := 8 + s * 9 + 8) (by omega), h.2.1 (8 + s * 9 + 8) (by omega), md, e6, if_pos (j_in_nI (by omega) (by decide)), nI_clamp (n := 158 + p * 8) (by omega), h.2.1 (158 + p * 8) (by omega), m6]
        by_cases q : dk < f6
        · rw [if_pos (nI_lt q (by omega)), gd]
          dsimp only [Option.toList_some, List.cons_append, List.nil_append]
          rw [B248_111_a6, if_pos (j_in_nI (by omega) (by decide)), nI_clamp (n := 8 + s * 9 + 8) (by omega), h.2.1 (8 + s * 9 + 8) (by omega), md, Nat.min_eq_left (by omega)]
        · rw [if_neg (nI_nlt (by omega) (by omega)), if_pos (j_in_nI (by omega) (by decide)), Nat.min_eq_right (by omega)]
      rw [k1, B248_79_a6, gd]
      dsimp only [Option.toList_some, List.cons_append, List.nil_append]
      rw [k2, B248_121_a6]
      by_cases q : max bt f5 < min dk f6
      · rw [if_pos (nI_lt q (by omega)), B248_141_a6, nI_sub (by omega), nI_add, nI_1]
        rfl
      · rw [if_neg (nI_nlt (by omega) (by omega)), B248_141_a6, show min dk f6 - max bt f5 = 0 by omega, nI_1]
        rw [show nI a + 0 = nI (a + 0) from nI_add a 0]
        rfl) (acc, o7, o8) (Nat.le_refl _)
  dsimp only at a1 a2 a3
  refine ⟨acc', some (.int (nI (min dk f6))), some (.int (nI (f3 + (f4 + 1 - f3)))), q7, q8, by omega, (show _ = _ from a2).trans ?_, (show _ = _ from a3).trans ?_⟩
  · rw [B58_48_o1, g_of1Q_2_4 hp, h.1 _ (by omega), m4]
    dsimp only [Option.toList_some, List.cons_append, List.nil_append]
    rw [B58_57_o1, if_pos (nI_lt (by omega) (by omega)), nI_1]
  · rw [B248_35_a6, e4, if_pos (j_in_nI (by omega) (by decide)), nI_clamp (n := 156 + p * 8) (by omega), h.2.1 _ (by omega), m4, if_pos (nI_lt (by omega) (by omega)), nI_1]
/-- the whole room -/
theorem roomQ_sim (h : mQ m I J) {p : Nat} (hp : p < 16) : ∃ R, R ≤ 600000 ∧ jv (d + 2) 58 0 [some (.ref 1), some (.int (nI p)), none, none, none, none] [] (shC, I, L, pX pa pb pu pw) = some (some (.int (nI R)), (shC, I, L, pX pa pb pu pw)) ∧ jv (e + 2) 248 0 [some (.ref 0), some (.ref 6), some (.int (nI p)), none, none, none, none, none, none] [] (shR, J, L', pR) = some (some (.int (nI R)), (shR, J, L', pR)) := by
  obtain ⟨f0, f1, f2, f3, f4, f5, f6, a0, a1, a2, a3, a4, a5, a6, m0, m1, m2, m3, m4, m5, m6⟩ := h.space hp
  have e1 : nI (152 + p * 8) + 1 = nI (153 + p * 8) := by rw [nI_1, show 152 + p * 8 + 1 = 153 + p * 8 by omega]
  have e2 : nI (152 + p * 8) + 2 = nI (154 + p * 8) := by rw [show nI (152 + p * 8) + 2 = nI (152 + p * 8 + 2) from nI_add _ 2, show 152 + p * 8 + 2 = 154 + p * 8 by omega]
  have e3 : nI (152 + p * 8) + 3 = nI (155 + p * 8) := by rw [show nI (152 + p * 8) + 3 = nI (152 + p * 8 + 3) from nI_add _ 3, show 152 + p * 8 + 3 = 155 + p * 8 by omega]
  obtain ⟨⟨R, o4, o5, q6, q7, q8⟩, b1, b2, b3⟩ := j_run2 (α := Nat × Option Value × Option Value × Option Value × Option Value × Option Value) (fun i t => jv (d + 2) 58 10 [some (.ref 1), some (.int (nI p)), some (.int (nI t.1)), some (.int (nI (f1 + i))), t.2.1, t.2.2.1] [] (shC, I, L, pX pa pb pu pw)) (fun i t => jv (e + 2) 248 18 [some (.ref 0), some (.ref 6), some (.int (nI p)), some (.int (nI (152 + p * 8))), some (.int (nI t.1)), some (.int (nI (f1 + i))), t.2.2.2.1, t.2.2.2.2.1, t.2.2.2.2.2] [] (shR, J, L', pR)) (fun i t => t.1 ≤ 32000 * i) (f2 + 1 - f1) (fun i hi t ht => by
    obtain ⟨a, o4, o5, q6, q7, q8⟩ := t
    dsimp only at ht ⊢
    obtain ⟨dk, hd, md⟩ := h.hull (s := f1 + i) (x := 8) (by omega) (by decide)
    obtain ⟨acc', o4', o5', q7', q8', c1, c2, c3⟩ := rmQ_x (d := d) (e := e) (L := L) (L' := L') (pa := pa) (pb := pb) (pu := pu) (pw := pw) h hp (show f1 + i < 16 by omega) a3 a4 a5 a6 hd m4 m5 m6 md q7 q8 (acc := a)
    refine ⟨(acc', o4', o5', some (.int (nI (f3 + (f4 + 1 - f3)))), q7', q8'), by dsimp only; omega, ?_, ?_⟩
    · dsimp only
      rw [B58_10_o1, g_of1Q_2_2 hp, h.1 _ (by omega), m2]
      dsimp only [Option.toList_some, List.cons_append, List.nil_append]
      rw [B58_18_o1, if_neg (nI_nlt (by omega) (by omega)), jgo_some rfl (deckQ_c h (by omega)), md]
      dsimp only [Option.toList_some, List.cons_append, List.nil_append]
      rw [B58_26_o1, g_of1Q_2_6 hp, h.1 _ (by omega), m6]
      dsimp only [Option.toList_some, List.cons_append, List.nil_append]
      have mn : (if nI f6 < nI dk then nI f6 else nI dk) = nI (min dk f6) := by
        by_cases q : f6 < dk
        · rw [if_pos (nI_lt q (by omega)), Nat.min_eq_right (by omega)]
        · rw [if_neg (nI_nlt (by omega) (by omega)), Nat.min_eq_left (by omega)]
      rw [B58_34_o1, mn, g_of1Q_2_3 hp, h.1 _ (by omega), m3]
      dsimp only [Option.toList_some, List.cons_append, List.nil_append]
      rw [B58_46_o1]
      exact c2
    · dsimp only
      rw [B248_18_a6, e2, if_pos (j_in_nI (by omega) (by decide)), nI_clamp (n := 154 + p * 8) (by omega), h.2.1 _ (by omega), m2, if_neg (nI_nlt (by omega) (by omega)), e3, if_pos (j_in_nI (by omega) (by decide)), nI_clamp (n := 155 + p * 8) (by omega), h.2.1 _ (by omega), m3]
      exact c3) (0, none, none, none, none, none) (Nat.le_refl _)
  dsimp only at b1 b2 b3
  refine ⟨R, by omega, ?_, ?_⟩
  · rw [B58_0_o1, g_of1Q_2_1 hp, h.1 _ (by omega), m1]
    dsimp only [Option.toList_some, List.cons_append, List.nil_append]
    rw [B58_9_o1]
    refine (show _ = _ from b2).trans ?_
    rw [B58_10_o1, g_of1Q_2_2 hp, h.1 _ (by omega), m2]
    dsimp only [Option.toList_some, List.cons_append, List.nil_append]
    rw [B58_18_o1, if_pos (nI_lt (by omega) (by omega))]
  · rw [B248_0_a6, g_at_2_0 h.2.2.2]
    dsimp only [Option.toList_some, List.cons_append, List.nil_append]
    rw [B248_7_a6, e1, if_pos (j_in_nI (by omega) (by decide)), nI_clamp (n := 153 + p * 8) (by omega), h.2.1 _ (by omega), m1]
    refine (show _ = _ from b3).trans ?_
    rw [B248_18_a6, e2, if_pos (j_in_nI (by omega) (by decide)), nI_clamp (n := 154 + p * 8) (by omega), h.2.1 _ (by omega), m2, if_pos (nI_lt (by omega) (by omega))]
theorem mK.q (h : mK m I J) : mQ m I J := ⟨h.1, h.2.1, h.2.2.1, h.2.2.2.1⟩
end EVAX
