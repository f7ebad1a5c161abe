/-! ROWS: bounds; a space's room in both -/
section ROWB
variable {d e : Nat} {I J : Nat → Nat → Int32} {L L' : Nat → Nat → Int64} {pa pb pu pw : Option Nat} {m : Nat → Int32}
theorem ok_n {q a b c N : Nat} {v : Int32} (h : okV q v) (ha : a < 12) (hb : b < rowsN.getD a 0) (hc : c < fieldsN.getD a 0) (hq : q = fpN.getD a 0 + b * fieldsN.getD a 0 + c) (hl : leastv a c = 0) (hm : mostv a c = nI N) (hN : N < 2 ^ 31) : ∃ k, k ≤ N ∧ v = nI k := by
  have h1 := h.1 a b c ha hb hc hq
  unfold mbv at h1
  rw [hl, hm] at h1
  by_cases h2 : v < 0
  · rw [if_pos h2] at h1; exact absurd h1 (by decide)
  rw [if_neg h2] at h1
  by_cases h3 : nI N < v
  · rw [if_pos h3] at h1; exact absurd h1 (by decide)
  obtain ⟨j, j1, j2⟩ := nI_of h2
  subst j2
  refine ⟨j, ?_, rfl⟩
  by_cases q : N < j
  · exact absurd (nI_lt q j1) h3
  · omega
/-- the model on trial in both, its values as they may be -/
def mT (m : Nat → Int32) (I J : Nat → Nat → Int32) : Prop := (∀ q, q < 1189 → I 4 q = m q) ∧ (∀ q, q < 1189 → J 7 q = m q) ∧ (∀ q, q < 1189 → okV q (m q)) ∧ rCst J
theorem mT.hull (h : mT m I J) {s x : Nat} (hs : s < 16) (hx : x < 9) : ∃ k, k ≤ 2000 ∧ m (8 + s * 9 + x) = nI k := by
  have hq : 8 + s * 9 + x < 1189 := by omega
  have : x = 0 ∨ x = 1 ∨ x = 2 ∨ x = 3 ∨ x = 4 ∨ x = 5 ∨ x = 6 ∨ x = 7 ∨ x = 8 := by omega
  refine ok_n (h.2.2.1 _ hq) (a := 1) (b := s) (c := x) (by decide) hs hx rfl ?_ ?_ (by decide)
  · rcases this with rfl | rfl | rfl | rfl | rfl | rfl | rfl | rfl | rfl <;> decide
  · rcases this with rfl | rfl | rfl | rfl | rfl | rfl | rfl | rfl | rfl <;> decide
theorem mT.space (h : mT m I J) {p : Nat} (hp : p < 16) : ∃ f0 f1 f2 f3 f4 f5 f6, f0 ≤ 2 ∧ f1 ≤ 15 ∧ f2 ≤ 15 ∧ f3 ≤ 15 ∧ f4 ≤ 15 ∧ f5 ≤ 2000 ∧ f6 ≤ 2000 ∧ m (152 + p * 8) = nI f0 ∧ m (153 + p * 8) = nI f1 ∧ m (154 + p * 8) = nI f2 ∧ m (155 + p * 8) = nI f3 ∧ m (156 + p * 8) = nI f4 ∧ m (157 + p * 8) = nI f5 ∧ m (158 + p * 8) = nI f6 := by
  have one : ∀ x N, x < 8 → N < 2 ^ 31 → leastv 2 x = 0 → mostv 2 x = nI N → ∃ k, k ≤ N ∧ m (152 + p * 8 + x) = nI k := fun x N hx hN h1 h2 => ok_n (h.2.2.1 _ (by omega)) (a := 2) (b := p) (c := x) (by decide) hp hx rfl h1 h2 hN
  obtain ⟨f0, a0, b0⟩ := one 0 2 (by decide) (by decide) (by decide) (by decide)
  obtain ⟨f1, a1, b1⟩ := one 1 15 (by decide) (by decide) (by decide) (by decide)
  obtain ⟨f2, a2, b2⟩ := one 2 15 (by decide) (by decide) (by decide) (by decide)
  obtain ⟨f3, a3, b3⟩ := one 3 15 (by decide) (by decide) (by decide) (by decide)
  obtain ⟨f4, a4, b4⟩ := one 4 15 (by decide) (by decide) (by decide) (by decide)
  obtain ⟨f5, a5, b5⟩ := one 5 2000 (by decide) (by decide) (by decide) (by decide)
  obtain ⟨f6, a6, b6⟩ := one 6 2000 (by decide) (by decide) (by decide) (by decide)
  refine ⟨f0, f1, f2, f3, f4, f5, f6, a0, a1, a2, a3, a4, a5, a6, ?_, ?_, ?_, ?_, ?_, ?_, ?_⟩
  · rw [← b0, Nat.add_zero]
  · rw [← b1]; congr 1; omega
  · rw [← b2]; congr 1; omega
  · rw [← b3]; congr 1; omega
  · rw [← b4]; congr 1; omega
  · rw [← b5]; congr 1; omega
  · rw [← b6]; congr 1; omega
def btX (c : Nat) : Nat := if c < 8 then 7 - c else c - 8
theorem btX_lt {c : Nat} (h : c < 16) : btX c < 8 := by unfold btX; split <;> omega
theorem btm_c (h : mT m I J) {s c : Nat} (hs : s < 16) (hc : c < 16) : jv (d + 1) 56 0 [some (.ref 3), some (.int (nI s)), some (.int (nI c))] [] (shC, I, L, pX pa pb pu pw) = some (some (.int (m (8 + s * 9 + btX c))), (shC, I, L, pX pa pb pu pw)) := by
  have hx := btX_lt hc
  have g : ∀ K, jgo jTT jMM (d + 1) 51 [.ref 3, .int 1, .int (nI s), .int (nI (btX c))] (shC, I, L, pX pa pb pu pw) K = K (some (.int (I 4 (8 + s * 9 + btX c)))) (shC, I, L, pX pa pb pu pw) := fun K => jgo_some rfl (of_3 (a := 1) (b := s) (c := btX c) (by decide) hs (show btX c < 9 by omega) none)
  have key : jv (d + 1) 56 0 [some (.ref 3), some (.int (nI s)), some (.int (nI c))] [] (shC, I, L, pX pa pb pu pw) = jv (d + 1) 56 20 [some (.ref 3), some (.int (nI s)), some (.int (nI c))] [.int (nI (btX c)), .int (nI s), .int 1, .ref 3] (shC, I, L, pX pa pb pu pw) := by
    rw [B56_0_o3]
    unfold btX
    by_cases q : c < 8
    · rw [if_pos (show nI c < 8 from nI_lt (b := 8) q (by decide)), if_pos q, show 7 - nI c = nI (7 - c) from nI_sub (a := 7) (by omega)]
    · rw [if_neg (show ¬ nI c < 8 from nI_nlt (b := 8) (by omega) (by omega)), if_neg q, show nI c - 8 = nI (c - 8) from nI_sub (b := 8) (by omega)]
  rw [key, B56_20_o3, g]
  dsimp only [Option.toList_some, List.cons_append, List.nil_append]
  rw [B56_23_o3, h.1 _ (by omega)]
theorem btm_r (h : mT m I J) {s c : Nat} (hs : s < 16) (hc : c < 16) : jv (e + 1) 247 0 [some (.ref 0), some (.ref 7), some (.int (nI s)), some (.int (nI c))] [] (shR, J, L', pR) = some (some (.int (m (8 + s * 9 + btX c))), (shR, J, L', pR)) := by
  have hx := btX_lt hc
  have g : ∀ K, jgo jTT jMM (e + 1) 214 [.ref 0, .int 1, .int (nI s), .int (nI (btX c))] (shR, J, L', pR) K = K (some (.int (nI (8 + s * 9 + btX c)))) (shR, J, L', pR) := fun K => jgo_some rfl (at_ok h.2.2.2 (t := 1) (by decide) s (btX c))
  have key : jv (e + 1) 247 0 [some (.ref 0), some (.ref 7), some (.int (nI s)), some (.int (nI c))] [] (shR, J, L', pR) = jv (e + 1) 247 21 [some (.ref 0), some (.ref 7), some (.int (nI s)), some (.int (nI c))] [.int (nI (btX c)), .int (nI s), .int 1, .ref 0, .ref 7] (shR, J, L', pR) := by
    rw [B247_0_a7]
    unfold btX
    by_cases q : c < 8
    · rw [if_pos (show nI c < 8 from nI_lt (b := 8) q (by decide)), if_pos q, show 7 - nI c = nI (7 - c) from nI_sub (a := 7) (by omega)]
    · rw [if_neg (show ¬ nI c < 8 from nI_nlt (b := 8) (by omega) (by omega)), if_neg q, show nI c - 8 = nI (c - 8) from nI_sub (b := 8) (by omega)]
  rw [key, B247_21_a7, g]
  dsimp only [Option.toList_some, List.cons_append, List.nil_append]
  rw [B247_24_a7, if_pos (j_in_nI (by omega) (by decide)), nI_clamp (n := 8 + s * 9 + btX c) (by omega), h.2.1 _ (by omega)]
/-- what a column adds to the room -/
def rmN (hi bt lo : Nat) : Nat := min hi 5000 - max bt lo
theorem rm_c {a hi bt lo : Nat} (h1 : hi ≤ 2000) (h2 : bt ≤ 2000) (h3 : lo ≤ 2000) : nI a + (if (0 : Int32) < nI hi - (if nI bt < nI lo then nI lo else nI bt) then nI hi - (if nI bt < nI lo then nI lo else nI bt) else 0) = nI (a + (hi - max bt lo)) := by
  have e1 : (if nI bt < nI lo then nI lo else nI bt) = nI (max bt lo) := by
    by_cases q : bt < lo
    · rw [if_pos (nI_lt q (by omega)), Nat.max_eq_right (by omega)]
    · rw [if_neg (nI_nlt (by omega) (by omega)), Nat.max_eq_left (by omega)]
  rw [e1]
  have hm : max bt lo ≤ 2000 := by omega
  generalize max bt lo = x at hm ⊢
  have e2 : (nI hi - nI x).toInt = (hi : Int) - (x : Int) := by
    rw [Int32.toInt_sub, nI_toInt (by omega), nI_toInt (by omega), Int.bmod_def]
    split <;> omega
  by_cases q : x < hi
  · rw [if_pos (by rw [Int32.lt_iff_toInt_lt, e2]; show (0 : Int) < _; omega), nI_sub (by omega), nI_add]
  · rw [if_neg (by rw [Int32.lt_iff_toInt_lt, e2]; show ¬ (0 : Int) < _; omega), show hi - x = 0 by omega]
    exact nI_add a 0
end ROWB
