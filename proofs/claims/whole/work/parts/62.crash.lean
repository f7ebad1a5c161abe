/-! feed, crash, piece, rules -/
theorem t4_eq {f g : Nat → Int32} {n : Nat} (h : ∀ i, i < n → f i = g i) (a : Int32) : ∀ i, i < n + 4 → t4 f n a i = t4 g n a i := by
  intro i hi
  unfold t4 va_up
  by_cases h3 : i = n + 3
  · rw [if_pos h3, if_pos h3]
  · rw [if_neg h3, if_neg h3]
    by_cases h2 : i = n + 2
    · rw [if_pos h2, if_pos h2]
    · rw [if_neg h2, if_neg h2]
      by_cases h1 : i = n + 1
      · rw [if_pos h1, if_pos h1]
      · rw [if_neg h1, if_neg h1]
        by_cases h0 : i = n
        · rw [if_pos h0, if_pos h0]
        · rw [if_neg h0, if_neg h0]
          exact h i (by omega)
theorem f20_tape {I J : Nat → Nat → Int32} {n : Nat} (h : ∀ i, i < n → I 26 i = J 17 i) (a1 a2 a3 a4 a5 : Int32) : ∀ i, i < n + 20 → f20 I 26 7 n a1 a2 a3 a4 a5 26 i = f20 J 17 20 n a1 a2 a3 a4 a5 17 i := by
  intro i hi
  unfold f20
  rw [va_up_ne _ _ (by decide), va_up_self, va_up_ne _ _ (by decide), va_up_self]
  exact t4_eq (t4_eq (t4_eq (t4_eq (t4_eq h a1) a2) a3) a4) a5 i hi
theorem f20_o (I : Nat → Nat → Int32) (b q n : Nat) (a1 a2 a3 a4 a5 : Int32) {c : Nat} (h0 : c ≠ 0) (hb : c ≠ b) : f20 I b q n a1 a2 a3 a4 a5 c = I c := by
  unfold f20
  rw [va_up_ne _ _ h0, va_up_ne _ _ hb]
theorem f20_0 (I : Nat → Nat → Int32) (b q n : Nat) (a1 a2 a3 a4 a5 : Int32) (f : Nat) : f20 I b q n a1 a2 a3 a4 a5 0 f = if f = q then nI (n + 20) else I 0 f := by
  unfold f20
  rw [va_up_self]
  rfl
def fwI (I : Nat → Nat → Int32) : Nat → Nat → Int32 := j_up (j_up (j_up (j_up (j_up (j_up I 60 2 0) 83 0 0) 96 0 0) 107 0 0) 107 1 0) 116 10 0
def fgJ (J : Nat → Nat → Int32) : Nat → Nat → Int32 := j_up (j_up (j_up (j_up (j_up J 0 59 0) 0 87 0) 0 103 0) 0 107 0) 0 120 0
def crI (I : Nat → Nat → Int32) (m : Nat) : Nat → Nat → Int32 := j_up (fwI (j_up (j_up (j_up (j_up I 23 1 (nI m)) 8 0 0) 13 0 0) 18 0 0)) 0 11 1
def crJ (J : Nat → Nat → Int32) (m : Nat) : Nat → Nat → Int32 := fgJ (endJ 2 (endJ 1 (endJ 0 (j_up (j_up J 0 17 (nI m)) 0 18 1))))
section CRASH
variable {d e : Nat} {I J : Nat → Nat → Int32} {L L' : Nat → Nat → Int64} {pa pb pu pw : Option Nat} {K : Option Value → jS → jO}
theorem feed_ask {n : Nat} (h1 : I 0 7 = nI n) (h2 : J 0 20 = nI n) (hn : n ≤ 1200) (a1 a2 a3 a4 a5 : Int32) : jAsk (jv (d + 1) 171 0 [some (.ref 0), some (.int a1), some (.int a2), some (.int a3), some (.int a4), some (.int a5)] [] (shC, I, L, pX pa pb pu pw)) (jv (e + 1) 225 0 [some (.ref 0), some (.int a1), some (.int a2), some (.int a3), some (.int a4), some (.int a5)] [] (shR, J, L', pR)) (shC, I, L, pX pa pb pu pw) (shR, J, L', pR) ∨ (n + 20 ≤ 1200 ∧ jAsk (jv (d + 1) 171 0 [some (.ref 0), some (.int a1), some (.int a2), some (.int a3), some (.int a4), some (.int a5)] [] (shC, I, L, pX pa pb pu pw)) (jv (e + 1) 225 0 [some (.ref 0), some (.int a1), some (.int a2), some (.int a3), some (.int a4), some (.int a5)] [] (shR, J, L', pR)) (shC, f20 I 26 7 n a1 a2 a3 a4 a5, L, pX pa pb pu pw) (shR, f20 J 17 20 n a1 a2 a3 a4 a5, L', pR)) := by
  by_cases hx : n + 20 ≤ 1200
  · right
    exact ⟨hx, _, feed_c h1 hx a1 a2 a3 a4 a5, feed_r h2 hx a1 a2 a3 a4 a5⟩
  · left
    have hy : (1200 : Int32) < nI n + 20 := by
      rw [show nI n + 20 = nI (n + 20) from nI_add n 20]
      exact nI_lt (a := 1200) (by omega) (by omega)
    rw [B171_0, B225_0, h1, h2, if_pos hy, if_pos hy]
    exact ⟨_, rfl, rfl⟩
theorem fw_c : jv d 187 0 [some (.ref 0)] [] (shC, I, L, pX pa pb pu pw) = some (none, (shC, fwI I, L, pX pa pb pu pw)) := by
  simp only [B187_0, nb0, ↓reduceIte]
  rfl
theorem fg_r : jv e 249 0 [some (.ref 0)] [] (shR, J, L', pR) = some (none, (shR, fgJ J, L', pR)) := by
  simp only [B249_0, nb0, ↓reduceIte]
  rfl
theorem fwI_o {c : Nat} (h1 : c ≠ 60) (h2 : c ≠ 83) (h3 : c ≠ 96) (h4 : c ≠ 107) (h5 : c ≠ 116) : fwI I c = I c := by
  unfold fwI
  rw [j_up_cell _ h5, j_up_cell _ h4, j_up_cell _ h4, j_up_cell _ h3, j_up_cell _ h2, j_up_cell _ h1]
theorem fgJ_o {c : Nat} (h : c ≠ 0) : fgJ J c = J c := by
  unfold fgJ
  rw [j_up_cell _ h, j_up_cell _ h, j_up_cell _ h, j_up_cell _ h, j_up_cell _ h]
theorem fgJ_0 (f : Nat) : fgJ J 0 f = if f = 120 then 0 else if f = 107 then 0 else if f = 103 then 0 else if f = 87 then 0 else if f = 59 then 0 else J 0 f := by
  unfold fgJ
  rw [j_up_own, j_up_own, j_up_own, j_up_own, j_up_own]
theorem crash_ask {n : Nat} (h1 : I 23 1 = nI n) (h2 : J 0 17 = nI n) (hn : n ≤ 40000) (h0 : I 0 11 = J 0 18) (x : Int32) : jAsk (jv (d + 1) 181 0 [some (.ref 0), some (.int x), none] [] (shC, I, L, pX pa pb pu pw)) (jv (e + 1) 238 0 [some (.ref 0), some (.int x), none] [] (shR, J, L', pR)) (shC, I, L, pX pa pb pu pw) (shR, J, L', pR) ∨ ∃ m, m ≤ n ∧ jAsk (jv (d + 1) 181 0 [some (.ref 0), some (.int x), none] [] (shC, I, L, pX pa pb pu pw)) (jv (e + 1) 238 0 [some (.ref 0), some (.int x), none] [] (shR, J, L', pR)) (shC, crI I m, L, pX pa pb pu pw) (shR, crJ J m, L', pR) := by
  rw [B181_0_u, B238_0, h1, h2]
  by_cases h : x < 0
  · left
    rw [if_pos h, if_pos h, B181_15_u, B238_12]; exact ⟨_, rfl, rfl⟩
  rw [if_neg h, if_neg h]
  by_cases h3 : nI n < x
  · left
    rw [if_pos h3, if_pos h3, B181_15_u, B238_12]; exact ⟨_, rfl, rfl⟩
  rw [if_neg h3, if_neg h3, h0]
  by_cases hd : J 0 18 = 0
  · right
    obtain ⟨k, hk, rfl⟩ := nI_of h
    have hkn : k ≤ n := Nat.le_of_not_lt (fun q => h3 (nI_lt q hk))
    refine ⟨n - k, by omega, .int (nI (n - k)), ?_, ?_⟩
    · have e1 : fwI (j_up (j_up (j_up (j_up I 23 1 (nI (n - k))) 8 0 0) 13 0 0) 18 0 0) 23 1 = nI (n - k) := by
        rw [fwI_o (by decide) (by decide) (by decide) (by decide) (by decide), j_up_cell _ (by decide), j_up_cell _ (by decide), j_up_cell _ (by decide), j_up_self]
      have e2 : j_up (fwI (j_up (j_up (j_up (j_up I 23 1 (nI (n - k))) 8 0 0) 13 0 0) 18 0 0)) 0 11 1 23 1 = nI (n - k) := by rw [j_up_cell _ (by decide), e1]
      rw [if_pos hd, nI_sub hkn, B181_42_i0, if_pos jin_03, if_pos nb0, i_add01, B181_42_i1, if_pos jin_13, if_pos nb0, i_add11, B181_42_i2, if_pos jin_23, if_pos nb0, i_add21, B181_42_i3, jgo_some (d := d) rfl fw_c]
      dsimp only [Option.toList_none, List.nil_append]
      rw [B181_67_u, if_pos nb1, e2]
      rfl
    · have e17 : ∀ p, p < 3 → ∀ X : Nat → Nat → Int32, endJ p X 0 = X 0 := fun p hp X => endJ_o p X (by decide) (by decide) (by decide) (by decide)
      have e2 : crJ J (n - k) 0 17 = nI (n - k) := by
        unfold crJ
        rw [fgJ_0, e17 2 (by decide), e17 1 (by decide), e17 0 (by decide), j_up_own, j_up_own]
        rfl
      have hl : ∀ X : Nat → Nat → Int32, jv (e + 1) 238 41 [some (.ref 0), some (.int (nI k)), some (.int 0)] [] (shR, X, L', pR) = some (some (.int (fgJ (endJ 2 (endJ 1 (endJ 0 X))) 0 17)), (shR, fgJ (endJ 2 (endJ 1 (endJ 0 X))), L', pR)) := fun X => by
        rw [B238_41, if_pos (by decide), g_end_r0]
        dsimp only [Option.toList_none, List.nil_append]
        rw [B238_51, i_add01, B238_41, if_pos (by decide), g_end_r1]
        dsimp only [Option.toList_none, List.nil_append]
        rw [B238_51, i_add11, B238_41, if_pos (by decide), g_end_r2]
        dsimp only [Option.toList_none, List.nil_append]
        rw [B238_51, i_add21, B238_41, if_neg (by decide), jgo_some (d := e) rfl fg_r]
        dsimp only [Option.toList_none, List.nil_append]
        rw [B238_61]
      rw [if_pos hd, if_pos nb1, nI_sub hkn, hl]
      show (some (some (Value.int (crJ J (n - k) 0 17)), (shR, crJ J (n - k), L', pR)) : jO) = _
      rw [e2]
  · left
    rw [if_neg hd, if_neg hd]; exact ⟨_, rfl, rfl⟩
/-- what both know of the pieces -/
def pieceRel (I J : Nat → Nat → Int32) : Prop := ∃ n : Nat, n ≤ 32 ∧ I 83 1 = nI n ∧ J 0 88 = nI n ∧ I 83 2 = J 0 89 ∧ ∀ k, k < n → I 84 k = J 48 k ∧ I 85 k = J 49 k ∧ (¬ J 49 k < 0 → I 86 k = J 50 k ∧ I 87 k = J 51 k ∧ I 88 k = J 52 k)
theorem piece_ask (h0 : I 0 11 = J 0 18) (hk : I 83 0 = J 0 87) (hb : I 83 0 ≠ 0 → pieceRel I J) (x y : Int32) : jAsk (jv (d + 1) 204 0 [some (.ref 0), some (.int x), some (.int y)] [] (shC, I, L, pX pa pb pu pw)) (jv e 338 0 [some (.ref 0), some (.int x), some (.int y)] [] (shR, J, L', pR)) (shC, I, L, pX pa pb pu pw) (shR, J, L', pR) := by
  rw [B204_0, B338_0]
  by_cases hy : y < 0
  · rw [if_pos hy, B204_13, if_pos hy]
    by_cases hx : x < 0
    · rw [if_pos hx, B338_13]; exact ⟨_, rfl, rfl⟩
    · rw [if_neg hx, B338_13]; exact ⟨_, rfl, rfl⟩
  rw [if_neg hy, if_neg hy]
  by_cases hy4 : 4 < y
  · rw [if_pos hy4, B204_13, if_pos hy4]
    by_cases hx : x < 0
    · rw [if_pos hx, B338_13]; exact ⟨_, rfl, rfl⟩
    · rw [if_neg hx, B338_13]; exact ⟨_, rfl, rfl⟩
  rw [if_neg hy4, if_neg hy4]
  by_cases hx : x < 0
  · rw [if_pos hx, if_pos hx, B204_13, B338_13]; exact ⟨_, rfl, rfl⟩
  rw [if_neg hx, if_neg hx, h0, hk]
  by_cases hd : J 0 18 = 0
  · rw [if_pos hd, if_pos hd]
    by_cases hz : J 0 87 = 0
    · rw [if_pos hz, if_pos hz]; exact ⟨_, rfl, rfl⟩
    obtain ⟨n, hn, r1, r2, r3, r4⟩ := hb (by rw [hk]; exact hz)
    rw [if_neg hz, if_neg hz, r1, r2]
    by_cases hxn : x < nI n
    · obtain ⟨k, hkn, rfl⟩ := i_small hx hxn (by omega)
      obtain ⟨s1, s2, s3⟩ := r4 k hkn
      have jk : j_in (nI k) 32 = true := j_in_nI (by omega) (by decide)
      have ek : (nI k).toNatClampNeg = k := nI_clamp (by omega)
      have h32 : nI k < (32 : Int32) := nI_lt (b := 32) (by omega) (by decide)
      rw [if_pos hxn, if_pos hxn]
      by_cases y0 : y = 0
      · have e1 : jv d 120 0 [some (.ref 83), some (.int (nI k)), some (.int y)] [] (shC, I, L, pX pa pb pu pw) = some (some (.int (I 84 k)), (shC, I, L, pX pa pb pu pw)) := by
          simp (decide := true) only [B120_0, hx, h32, y0, jk, ek, ↓reduceIte]
        rw [jgo_some rfl e1]
        dsimp only [Option.toList_some, List.cons_append, List.nil_append]
        rw [B204_62, if_neg (by rw [y0]; decide), B338_61, if_pos y0, if_pos jk, B338_122, ek, s1]
        exact ⟨_, rfl, rfl⟩
      · have hy0 : (0 : Int32) < y := by
          apply Classical.byContradiction
          intro q
          exact y0 (i_zero hy q)
        rw [if_pos hy0, if_pos jk, ek]
        by_cases hs : J 49 k < 0
        · have e1 : jv d 120 0 [some (.ref 83), some (.int (nI k)), some (.int y)] [] (shC, I, L, pX pa pb pu pw) = some (some (.int (-2)), (shC, I, L, pX pa pb pu pw)) := by
            simp (decide := true) only [B120_0, hx, h32, y0, jk, ek, s2, hs, ↓reduceIte]
          rw [jgo_some rfl e1]
          dsimp only [Option.toList_some, List.cons_append, List.nil_append]
          rw [B204_62, if_pos hs]
          exact ⟨_, rfl, rfl⟩
        · obtain ⟨t1, t2, t3⟩ := s3 hs
          have e1 : jv d 120 0 [some (.ref 83), some (.int (nI k)), some (.int y)] [] (shC, I, L, pX pa pb pu pw) = some (some (.int (if y = 1 then J 49 k else if y = 2 then J 50 k else if y = 3 then J 51 k else J 52 k)), (shC, I, L, pX pa pb pu pw)) := by
            by_cases y1 : y = 1
            · simp (decide := true) only [B120_0, B120_83, hx, h32, y1, jk, ek, s2, hs, ↓reduceIte]
            by_cases y2 : y = 2
            · simp (decide := true) only [B120_0, B120_83, hx, h32, y2, jk, ek, s2, hs, t1, ↓reduceIte]
            by_cases y3 : y = 3
            · simp (decide := true) only [B120_0, B120_83, hx, h32, y3, jk, ek, s2, hs, t2, ↓reduceIte]
            · simp (decide := true) only [B120_0, B120_83, hx, h32, y0, y1, y2, y3, jk, ek, s2, hs, t3, ↓reduceIte]
          have e2 : jv e 338 61 [some (.ref 0), some (.int (nI k)), some (.int y)] [] (shR, J, L', pR) = some (some (.int (if y = 1 then J 49 k else if y = 2 then J 50 k else if y = 3 then J 51 k else J 52 k)), (shR, J, L', pR)) := by
            rw [B338_61, if_neg y0, ek]
            simp only [jk, ↓reduceIte, B338_122, ite_some]
          rw [jgo_some rfl e1]
          dsimp only [Option.toList_some, List.cons_append, List.nil_append]
          rw [B204_62, if_neg hs, e2]
          exact ⟨_, rfl, rfl⟩
    · rw [if_neg hxn, if_neg hxn, B204_62]; exact ⟨_, rfl, rfl⟩
  · rw [if_neg hd, if_neg hd]; exact ⟨_, rfl, rfl⟩
end CRASH
