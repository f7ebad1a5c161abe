/-! RULES: the text's bytes, letters and digits in both -/
section TOKA
variable {d e : Nat} {I J : Nat → Nat → Int32} {L L' : Nat → Nat → Int64} {pa pb pu pw : Option Nat} {m : Nat → Int32}
theorem l_and255 (y : Int32) : ∃ n : Nat, n < 256 ∧ y &&& 255 = nI n := by
  refine ⟨(y.toBitVec &&& 255#32).toNat, ?_, ?_⟩
  · rw [BitVec.toNat_and]
    exact Nat.lt_of_le_of_lt Nat.and_le_right (by decide)
  · apply Int32.toBitVec_inj.mp
    show y.toBitVec &&& 255#32 = BitVec.ofNat 32 _
    rw [BitVec.ofNat_toNat, BitVec.setWidth_eq]
/-- the byte i of the text -/
def txI (m : Nat → Int32) (i : Nat) : Int32 := (m (889 + i / 4) >>> ((24 - (8 * nI (i % 4))) &&& 31)) &&& 255
def txB (m : Nat → Int32) (i : Nat) : Nat := (txI m i).toNatClampNeg
theorem txB_eq (m : Nat → Int32) (i : Nat) : txI m i = nI (txB m i) ∧ txB m i < 256 := by
  obtain ⟨n, h1, h2⟩ := l_and255 (m (889 + i / 4) >>> ((24 - (8 * nI (i % 4))) &&& 31))
  have h3 : txI m i = nI n := h2
  unfold txB
  rw [h3, nI_clamp (by omega)]
  exact ⟨rfl, h1⟩
abbrev isL (b : Nat) : Prop := 97 ≤ b ∧ b ≤ 122
abbrev isD (b : Nat) : Prop := 48 ≤ b ∧ b ≤ 57
theorem let_c {b : Nat} (hb : b < 256) : jv d 5 0 [some (.int (nI b))] [] (shC, I, L, pX pa pb pu pw) = some (some (.int (if isL b then 1 else 0)), (shC, I, L, pX pa pb pu pw)) := by
  rw [B5_0]
  by_cases q1 : b < 97
  · rw [if_pos (show nI b < 97 from nI_lt (b := 97) q1 (by decide)), B5_16, B5_17, if_pos bl_0, if_neg (show ¬ (97 ≤ b ∧ b ≤ 122) by omega)]
  rw [if_neg (show ¬ nI b < 97 from nI_nlt (b := 97) (by omega) (by omega))]
  by_cases q2 : 122 < b
  · rw [if_pos (show (122 : Int32) < nI b from nI_lt (a := 122) q2 (by omega)), B5_16, B5_17, if_pos bl_0, if_neg (show ¬ (97 ≤ b ∧ b ≤ 122) by omega)]
  · rw [if_neg (show ¬ (122 : Int32) < nI b from nI_nlt (a := 122) (by omega) (by decide)), B5_17, if_pos bl_1, if_pos (show 97 ≤ b ∧ b ≤ 122 by omega)]
theorem dig_c {b : Nat} (hb : b < 256) : jv d 6 0 [some (.int (nI b))] [] (shC, I, L, pX pa pb pu pw) = some (some (.int (if isD b then 1 else 0)), (shC, I, L, pX pa pb pu pw)) := by
  rw [B6_0]
  by_cases q1 : b < 48
  · rw [if_pos (show nI b < 48 from nI_lt (b := 48) q1 (by decide)), B6_16, B6_17, if_pos bl_0, if_neg (show ¬ (48 ≤ b ∧ b ≤ 57) by omega)]
  rw [if_neg (show ¬ nI b < 48 from nI_nlt (b := 48) (by omega) (by omega))]
  by_cases q2 : 57 < b
  · rw [if_pos (show (57 : Int32) < nI b from nI_lt (a := 57) q2 (by omega)), B6_16, B6_17, if_pos bl_0, if_neg (show ¬ (48 ≤ b ∧ b ≤ 57) by omega)]
  · rw [if_neg (show ¬ (57 : Int32) < nI b from nI_nlt (a := 57) (by omega) (by decide)), B6_17, if_pos bl_1, if_pos (show 48 ≤ b ∧ b ≤ 57 by omega)]
theorem let_r {b : Nat} (hb : b < 256) : jv e 254 0 [some (.int (nI b))] [] (shR, J, L', pR) = some (some (.int (if isL b then 1 else 0)), (shR, J, L', pR)) := by
  rw [B254_0]
  by_cases q1 : b < 97
  · rw [if_pos (show nI b < 97 from nI_lt (b := 97) q1 (by decide)), B254_16, B254_17, if_pos bl_0, if_neg (show ¬ (97 ≤ b ∧ b ≤ 122) by omega)]
  rw [if_neg (show ¬ nI b < 97 from nI_nlt (b := 97) (by omega) (by omega))]
  by_cases q2 : 122 < b
  · rw [if_pos (show (122 : Int32) < nI b from nI_lt (a := 122) q2 (by omega)), B254_16, B254_17, if_pos bl_0, if_neg (show ¬ (97 ≤ b ∧ b ≤ 122) by omega)]
  · rw [if_neg (show ¬ (122 : Int32) < nI b from nI_nlt (a := 122) (by omega) (by decide)), B254_17, if_pos bl_1, if_pos (show 97 ≤ b ∧ b ≤ 122 by omega)]
theorem dig_r {b : Nat} (hb : b < 256) : jv e 255 0 [some (.int (nI b))] [] (shR, J, L', pR) = some (some (.int (if isD b then 1 else 0)), (shR, J, L', pR)) := by
  rw [B255_0]
  by_cases q1 : b < 48
  · rw [if_pos (show nI b < 48 from nI_lt (b := 48) q1 (by decide)), B255_16, B255_17, if_pos bl_0, if_neg (show ¬ (48 ≤ b ∧ b ≤ 57) by omega)]
  rw [if_neg (show ¬ nI b < 48 from nI_nlt (b := 48) (by omega) (by omega))]
  by_cases q2 : 57 < b
  · rw [if_pos (show (57 : Int32) < nI b from nI_lt (a := 57) q2 (by omega)), B255_16, B255_17, if_pos bl_0, if_neg (show ¬ (48 ≤ b ∧ b ≤ 57) by omega)]
  · rw [if_neg (show ¬ (57 : Int32) < nI b from nI_nlt (a := 57) (by omega) (by decide)), B255_17, if_pos bl_1, if_pos (show 48 ≤ b ∧ b ≤ 57 by omega)]
theorem tb1_c (hI : ∀ q, q < 1189 → I 2 q = m q) {i : Nat} (hi : i < 1200) : jv (d + 1) 53 0 [some (.ref 1), some (.int (nI i))] [] (shC, I, L, pX pa pb pu pw) = some (some (.int (nI (txB m i))), (shC, I, L, pX pa pb pu pw)) := by
  have g : ∀ K, jgo jTT jMM (d + 1) 51 [.ref 1, .int 12, .int 0, .int (nI (1 + i / 4))] (shC, I, L, pX pa pb pu pw) K = K (some (.int (I 2 (888 + 0 * 301 + (1 + i / 4))))) (shC, I, L, pX pa pb pu pw) := fun K => jgo_some rfl (of_1 (a := 12) (b := 0) (c := 1 + i / 4) (by decide) (by decide) (show 1 + i / 4 < 301 by omega) none)
  rw [B53_0_o1, if_neg (by decide), show nI i / 4 = nI (i / 4) from nI_div (b := 4) (by omega) (by decide), show 1 + nI (i / 4) = nI (1 + i / 4) from nI_add 1 _, g, hI _ (by omega), show 888 + 0 * 301 + (1 + i / 4) = 889 + i / 4 by omega]
  dsimp only [Option.toList_some, List.cons_append, List.nil_append]
  rw [B53_12_o1, if_neg (by decide), show nI i - nI i / 4 * 4 = nI (i % 4) from nI_mod (b := 4) (by omega) (by decide), ← (txB_eq m i).1]
  rfl
theorem tb3_c (hI : ∀ q, q < 1189 → I 4 q = m q) {i : Nat} (hi : i < 1200) : jv (d + 1) 53 0 [some (.ref 3), some (.int (nI i))] [] (shC, I, L, pX pa pb pu pw) = some (some (.int (nI (txB m i))), (shC, I, L, pX pa pb pu pw)) := by
  have g : ∀ K, jgo jTT jMM (d + 1) 51 [.ref 3, .int 12, .int 0, .int (nI (1 + i / 4))] (shC, I, L, pX pa pb pu pw) K = K (some (.int (I 4 (888 + 0 * 301 + (1 + i / 4))))) (shC, I, L, pX pa pb pu pw) := fun K => jgo_some rfl (of_3 (a := 12) (b := 0) (c := 1 + i / 4) (by decide) (by decide) (show 1 + i / 4 < 301 by omega) none)
  rw [B53_0_o3, if_neg (by decide), show nI i / 4 = nI (i / 4) from nI_div (b := 4) (by omega) (by decide), show 1 + nI (i / 4) = nI (1 + i / 4) from nI_add 1 _, g, hI _ (by omega), show 888 + 0 * 301 + (1 + i / 4) = 889 + i / 4 by omega]
  dsimp only [Option.toList_some, List.cons_append, List.nil_append]
  rw [B53_12_o3, if_neg (by decide), show nI i - nI i / 4 * 4 = nI (i % 4) from nI_mod (b := 4) (by omega) (by decide), ← (txB_eq m i).1]
  rfl
theorem tb6_r (hJ : ∀ q, q < 1189 → J 6 q = m q) (hr : rCst J) {i : Nat} (hi : i < 1200) : jv e 252 0 [some (.ref 0), some (.ref 6), some (.int (nI i))] [] (shR, J, L', pR) = some (some (.int (nI (txB m i))), (shR, J, L', pR)) := by
  have j4 : J 4 (12 : Int32).toNatClampNeg = nI 888 := hr.2.2.2.1 12 (by decide)
  rw [B252_0_a6, if_pos (by decide), if_neg (by decide), j4, show nI i / 4 = nI (i / 4) from nI_div (b := 4) (by omega) (by decide), show nI 888 + 1 + nI (i / 4) = nI (889 + i / 4) from nI_add 889 _, if_pos (j_in_nI (by omega) (by decide)), if_neg (by decide), nI_clamp (n := 889 + i / 4) (by omega), hJ _ (by omega), show nI i - nI (i / 4) * 4 = nI (i % 4) from (by rw [← show nI i / 4 = nI (i / 4) from nI_div (b := 4) (by omega) (by decide)]; exact nI_mod (b := 4) (by omega) (by decide)), ← (txB_eq m i).1]
  rfl
theorem tb7_r (hJ : ∀ q, q < 1189 → J 7 q = m q) (hr : rCst J) {i : Nat} (hi : i < 1200) : jv e 252 0 [some (.ref 0), some (.ref 7), some (.int (nI i))] [] (shR, J, L', pR) = some (some (.int (nI (txB m i))), (shR, J, L', pR)) := by
  have j4 : J 4 (12 : Int32).toNatClampNeg = nI 888 := hr.2.2.2.1 12 (by decide)
  rw [B252_0_a7, if_pos (by decide), if_neg (by decide), j4, show nI i / 4 = nI (i / 4) from nI_div (b := 4) (by omega) (by decide), show nI 888 + 1 + nI (i / 4) = nI (889 + i / 4) from nI_add 889 _, if_pos (j_in_nI (by omega) (by decide)), if_neg (by decide), nI_clamp (n := 889 + i / 4) (by omega), hJ _ (by omega), show nI i - nI (i / 4) * 4 = nI (i % 4) from (by rw [← show nI i / 4 = nI (i / 4) from nI_div (b := 4) (by omega) (by decide)]; exact nI_mod (b := 4) (by omega) (by decide)), ← (txB_eq m i).1]
  rfl
/-- how far a run reaches -/
theorem run_ex (P : Nat → Prop) {k n : Nat} (hk : k ≤ n) : ∃ l, k + l ≤ n ∧ (∀ j, j < l → P (k + j)) ∧ (k + l = n ∨ ¬ P (k + l)) := by
  have go : ∀ (r k : Nat), k + r = n → ∃ l, k + l ≤ n ∧ (∀ j, j < l → P (k + j)) ∧ (k + l = n ∨ ¬ P (k + l)) := by
    intro r
    induction r with
    | zero => intro k h; exact ⟨0, by omega, fun j hj => absurd hj (Nat.not_lt_zero _), Or.inl (by omega)⟩
    | succ r ih =>
      intro k h
      rcases Classical.em (P k) with q | q
      · obtain ⟨l, l1, l2, l3⟩ := ih (k + 1) (by omega)
        refine ⟨l + 1, by omega, fun j hj => ?_, ?_⟩
        · cases j with
          | zero => exact q
          | succ j => rw [show k + (j + 1) = k + 1 + j by omega]; exact l2 j (by omega)
        · rw [show k + (l + 1) = k + 1 + l by omega]; exact l3
      · exact ⟨0, by omega, fun j hj => absurd hj (Nat.not_lt_zero _), Or.inr q⟩
  exact go (n - k) k (by omega)
end TOKA
