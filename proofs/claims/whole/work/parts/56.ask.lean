/-! CALLS THAT ONLY ASK: both answer alike, and nothing is changed -/
def jAsk (x y : jO) (S T : jS) : Prop := ∃ v, x = some (some v, S) ∧ y = some (some v, T)
theorem i_le8 {x : Int32} (h : x < 9) : ¬ 8 < x := fun q => i_nlt9 q h
theorem i_le5 {x : Int32} (h : x < 6) : ¬ 5 < x := fun q => i_nlt6 q h
theorem i_le6 {x : Int32} (h : x < 7) : ¬ 6 < x := fun q => i_nlt7 q h
section ASK
variable {d e : Nat} {I J : Nat → Nat → Int32} {L L' : Nat → Nat → Int64} {pa pb pu pw : Option Nat}
theorem cut_ask {n : Nat} (h1 : I 0 7 = nI n) (h2 : J 0 20 = nI n) (hn : n ≤ 1200) (x : Int32) : (∃ m, m ≤ n ∧ jv d 173 0 [some (.ref 0), some (.int x)] [] (shC, I, L, pX pa pb pu pw) = some (some (.int (nI m)), (shC, j_up I 0 7 (nI m), L, pX pa pb pu pw)) ∧ jv e 227 0 [some (.ref 0), some (.int x)] [] (shR, J, L', pR) = some (some (.int (nI m)), (shR, j_up J 0 20 (nI m), L', pR))) ∨ jAsk (jv d 173 0 [some (.ref 0), some (.int x)] [] (shC, I, L, pX pa pb pu pw)) (jv e 227 0 [some (.ref 0), some (.int x)] [] (shR, J, L', pR)) (shC, I, L, pX pa pb pu pw) (shR, J, L', pR) := by
  rw [B173_0, B227_0, h1, h2]
  by_cases h : x < 0
  · right
    rw [if_pos h, if_pos h, B173_12, B227_12]
    exact ⟨_, rfl, rfl⟩
  · rw [if_neg h, if_neg h]
    by_cases h3 : nI n < x
    · right
      rw [if_pos h3, if_pos h3, B173_12, B227_12]
      exact ⟨_, rfl, rfl⟩
    · left
      obtain ⟨k, hk, rfl⟩ := nI_of h
      have hkn : k ≤ n := Nat.le_of_not_lt (fun q => h3 (nI_lt q hk))
      refine ⟨n - k, by omega, ?_, ?_⟩
      · rw [if_neg h3, nI_sub hkn, j_up_self]
      · rw [if_neg h3, nI_sub hkn, j_up_self]
theorem log_ask {n : Nat} (h1 : I 23 1 = nI n) (h2 : J 0 17 = nI n) (hn : n ≤ 40000) (hb : ∀ i, i < n → I 24 i = J 16 i) (x : Int32) : jAsk (jv (d + 1) 180 0 [some (.ref 0), some (.int x)] [] (shC, I, L, pX pa pb pu pw)) (jv e 237 0 [some (.ref 0), some (.int x)] [] (shR, J, L', pR)) (shC, I, L, pX pa pb pu pw) (shR, J, L', pR) := by
  rw [B180_0, B237_0, h1, h2]
  by_cases h : x < 0
  · rw [if_pos h, if_pos h, B180_15, B180_27, B237_12, B237_26]
    exact ⟨_, rfl, rfl⟩
  · rw [if_neg h, if_neg h]
    by_cases h3 : x < nI n
    · obtain ⟨k, hk, rfl⟩ := i_small h h3 (by omega)
      have hx : j_in (nI k) 40000 = true := j_in_nI (by omega) (by decide)
      have e1 : jv d 38 0 [some (.ref 23), some (.int (nI k))] [] (shC, I, L, pX pa pb pu pw) = some (some (.int (I 24 k &&& 255)), (shC, I, L, pX pa pb pu pw)) := by
        rw [B38_0, if_neg h, h1, if_pos h3, if_pos hx, B38_26, nI_clamp (by omega)]
      rw [if_pos h3, if_pos h3, if_pos hx, jgo_some rfl e1]
      dsimp only [Option.toList_some, List.cons_append, List.nil_append]
      rw [B180_27, B237_26, nI_clamp (by omega), hb k hk]
      exact ⟨_, rfl, rfl⟩
    · rw [if_neg h3, if_neg h3, B180_15, B180_27, B237_12, B237_26]
      exact ⟨_, rfl, rfl⟩
theorem rod_ask {len : Nat → Nat} (h0 : I 0 11 = J 0 18) (hk : I 107 0 = J 0 103) (hb : I 107 0 ≠ 0 → barRel len I J) (hl : ∀ k, k < 9 → len k ≤ 4000 ∧ I 2 (879 + k) = nI (len k) ∧ J 6 (879 + k) = nI (len k)) (hc : rCst J) (x : Int32) : jAsk (jv (d + 1) 207 0 [some (.ref 0), some (.int x)] [] (shC, I, L, pX pa pb pu pw)) (jv (e + 1) 344 0 [some (.ref 0), some (.int x)] [] (shR, J, L', pR)) (shC, I, L, pX pa pb pu pw) (shR, J, L', pR) := by
  rw [B207_0, B344_0, if_pos (show j_in (11 : Int32) 13 = true by decide), z0_11]
  by_cases h : x < 0
  · rw [if_pos h, if_pos h, B207_14, B344_10]
    exact ⟨_, rfl, rfl⟩
  rw [if_neg h, if_neg h]
  by_cases h9 : x < 9
  · obtain ⟨k, hk9, rfl⟩ := i_small (n := 9) h h9 (by decide)
    rw [if_pos h9, if_neg (i_le8 h9), ← h0, ← hk]
    by_cases hd : I 0 11 = 0
    · rw [if_pos hd, if_pos hd]
      by_cases hn : I 107 0 = 0
      · rw [if_pos hn, if_pos hn, B207_72, B207_74, B344_63, B344_65]
        exact ⟨_, rfl, rfl⟩
      · rw [if_neg hn, if_neg hn]
        rcases hb hn with ⟨q1, q2⟩ | ⟨n, hn9, q1, q2, q3⟩
        · rw [q1, q2, if_pos (by decide), if_pos (by decide), B207_72, B207_74, B344_63, B344_65]
          exact ⟨_, rfl, rfl⟩
        · have hh := hl k hk9
          rw [q1, q2, if_neg (nI_pos (by omega)), if_neg (nI_pos (by omega)), g_of1_11_0 hk9, g_at_11_0 hc]
          dsimp only [Option.toList_some, List.cons_append, List.nil_append]
          rw [B207_57, B344_50, if_pos (show j_in (nI (879 + k)) 1189 = true from j_in_nI (by omega) (by decide)), nI_clamp (n := 879 + k) (by omega), hh.2.1, hh.2.2, nI_clamp (n := k) (by omega)]
          by_cases hz : 0 < len k
          · rw [if_pos (show (0 : Int32) < nI (len k) from nI_lt (a := 0) hz (by omega)), if_pos (show (0 : Int32) < nI (len k) from nI_lt (a := 0) hz (by omega)), if_pos (j_in_nI hk9 (by decide)), if_pos (j_in_nI hk9 (by decide)), B207_74, B344_65, q3 k hk9 hz]
            exact ⟨_, rfl, rfl⟩
          · rw [if_neg (show ¬ (0 : Int32) < nI (len k) from nI_nlt (b := len k) (a := 0) (by omega) (by decide)), if_neg (show ¬ (0 : Int32) < nI (len k) from nI_nlt (b := len k) (a := 0) (by omega) (by decide)), B207_72, B207_74, B344_63, B344_65]
            exact ⟨_, rfl, rfl⟩
    · rw [if_neg hd, if_neg hd, B344_65]
      exact ⟨_, rfl, rfl⟩
  · rw [if_neg h9, if_pos (by
      apply Classical.byContradiction
      intro q
      exact h9 (i_lt9 q)), B207_14, B344_10]
    exact ⟨_, rfl, rfl⟩
/-- what both know of the ways -/
def wayRel (I J : Nat → Nat → Int32) : Prop := ∀ p, p < 6 → (I 97 p = J 62 p) ∧ (¬ J 62 p < 0 → I 98 p = J 63 p ∧ I 99 p = J 64 p ∧ ∃ n : Nat, n ≤ 1600 ∧ J 63 p = nI n ∧ ∀ k, k < n → I 100 (p * 1600 + k) = J 65 (1600 * p + k))
theorem hasWay_c {p : Nat} (hp : p < 6) : jv d 77 0 [some (.ref 96), some (.int (nI p))] [] (shC, I, L, pX pa pb pu pw) = some (some (.int (if I 96 0 = 0 then 0 else if I 97 p < 0 then 0 else 1)), (shC, I, L, pX pa pb pu pw)) := by
  rw [B77_0, nI_clamp (by omega)]
  by_cases h : I 96 0 = 0
  · rw [if_pos h, if_pos h, B77_30, B77_31, if_pos nb0]
  · rw [if_neg h, if_neg h, if_neg (nI_pos (by omega)), if_pos (show nI p < (6 : Int32) from nI_lt hp (by decide)), if_pos (j_in_nI hp (by decide))]
    by_cases h2 : I 97 p < 0
    · rw [if_pos h2, if_pos h2, B77_30, B77_31, if_pos nb0]
    · rw [if_neg h2, if_neg h2, B77_31, if_pos nb1]
theorem g_hasWay_c {p : Nat} (hp : p < 6) {K : Option Value → jS → jO} : jgo jTT jMM (d + 1) 77 [.ref 96, .int (nI p)] (shC, I, L, pX pa pb pu pw) K = K (some (.int (if I 96 0 = 0 then 0 else if I 97 p < 0 then 0 else 1))) (shC, I, L, pX pa pb pu pw) := jgo_some rfl (hasWay_c hp)
theorem way_ask (h0 : I 0 11 = J 0 18) (hk : I 96 0 = J 0 107) (hb : I 96 0 ≠ 0 → wayRel I J) (x y : Int32) : jAsk (jv (d + 1) 209 0 [some (.ref 0), some (.int x), some (.int y)] [] (shC, I, L, pX pa pb pu pw)) (jv e 354 0 [some (.ref 0), some (.int x), some (.int y)] [] (shR, J, L', pR)) (shC, I, L, pX pa pb pu pw) (shR, J, L', pR) := by
  rw [B209_0, B354_0, if_pos (show j_in (9 : Int32) 13 = true by decide), z0_9]
  by_cases h : x < 0
  · rw [if_pos h, if_pos h, B209_23, B354_18]
    exact ⟨_, rfl, rfl⟩
  rw [if_neg h, if_neg h]
  by_cases h6 : x < 6
  · obtain ⟨p, hp, rfl⟩ := i_small (n := 6) h h6 (by decide)
    have jp : j_in (nI p) 6 = true := j_in_nI hp (by decide)
    rw [if_pos h6, if_neg (i_le5 h6)]
    by_cases hy : y < 0
    · rw [if_pos hy, if_pos hy, B209_23, B354_18]
      exact ⟨_, rfl, rfl⟩
    rw [if_neg hy, if_neg hy]
    by_cases hy2 : 2 < y
    · rw [if_pos hy2, if_pos hy2, B209_23, B354_18]
      exact ⟨_, rfl, rfl⟩
    rw [if_neg hy2, if_neg hy2, ← h0, ← hk]
    by_cases hd : I 0 11 = 0
    · rw [if_pos hd, if_pos hd, g_hasWay_c hp]
      dsimp only [Option.toList_some, List.cons_append, List.nil_append]
      rw [B209_43, nI_clamp (n := p) (by omega)]
      by_cases hn : I 96 0 = 0
      · rw [if_pos hn, if_pos rfl, if_pos hn, B354_46, B354_84]
        exact ⟨_, rfl, rfl⟩
      · obtain ⟨r1, r2⟩ := hb hn p hp
        rw [if_neg hn, if_neg hn, r1]
        simp only [jp, ↓reduceIte]
        by_cases hw : J 62 p < 0
        · rw [if_pos hw, if_pos rfl, if_pos hw, B354_46, B354_84]
          exact ⟨_, rfl, rfl⟩
        · obtain ⟨r3, r4, _⟩ := r2 hw
          rw [if_neg hw, if_neg (by decide), if_neg hw]
          by_cases y0 : y = 0
          · rw [if_pos y0, if_pos y0, B209_91, B354_84]
            exact ⟨_, rfl, rfl⟩
          rw [if_neg y0, if_neg y0]
          by_cases y1 : y = 1
          · rw [if_pos y1, if_pos y1, B209_91, B354_84, r3]
            exact ⟨_, rfl, rfl⟩
          rw [if_neg y1, if_neg y1, B209_91, B354_84, r4]
          exact ⟨_, rfl, rfl⟩
    · rw [if_neg hd, if_neg hd]
      exact ⟨_, rfl, rfl⟩
  · rw [if_neg h6, if_pos (by
      apply Classical.byContradiction
      intro q
      exact h6 (i_lt6 q)), B209_23, B354_18]
    exact ⟨_, rfl, rfl⟩
end ASK
