/-! RULES: words that ask no sea -/
section EVAU
variable {m : Nat → Int32} {I J : Nat → Nat → Int32} {L L' : Nat → Nat → Int64} {pa pb pu pw : Option Nat} {d e : Nat}
/-- what earlier calls left, alike in both -/
def knW (I J : Nat → Nat → Int32) : Prop := (I 83 0 = J 0 87 ∧ (I 83 0 ≠ 0 → pieceRel I J)) ∧ (I 107 0 = J 0 103 ∧ (I 107 0 ≠ 0 → (I 107 2 < 0 ∧ J 0 104 < 0) ∨ (¬ I 107 2 < 0 ∧ I 107 2 = J 0 104))) ∧ (I 96 0 = J 0 107 ∧ (I 96 0 ≠ 0 → I 96 1 = J 0 108 ∧ wayRel I J)) ∧ (I 107 1 = J 0 120 ∧ (I 107 1 ≠ 0 → planRel I J))
def wdA (m : Nat → Int32) (I : Nat → Nat → Int32) (w : Nat) : Int × Int := if w = 6 then ((m 0).toInt, 1) else if w = 7 then ((m 1).toInt, 1) else if w = 8 then (if I 83 0 = 0 then (0, 0) else ((I 83 2).toInt, 1)) else if w = 9 then (if I 83 0 = 0 then (0, 0) else ((I 83 1 - I 83 2).toInt, 1)) else if w = 10 then (if I 107 0 = 0 ∨ I 107 2 < 0 then (0, 0) else ((I 107 2).toInt, 1)) else if w = 11 then (if I 96 0 = 0 then (0, 0) else ((I 96 1).toInt, 1)) else (if I 107 1 = 0 ∨ I 107 5 < 0 then (0, 0) else ((I 107 5).toInt, 1))
theorem i32_b (x : Int32) : fB x.toInt := by
  have hH : HG = 1000000000000000000 := rfl
  have h1 := Int32.le_toInt x
  have h2 := Int32.toInt_lt x
  exact ⟨by omega, by omega⟩
theorem i64_i (x : Int32) : x.toInt64.toInt = x.toInt := Int32.toInt_toInt64 x
theorem fS_0 (v : Int) : fS v 0 = (0, 0) := by
  unfold fS
  rw [if_neg (fun h => h.2.2 rfl)]
theorem set1 (x : Int32) : jv (d + 1) 162 0 [some (.ref 116), some (.long x.toInt64), none, some (.long 1), none, none, none, none, none, none, none, none] [] (shC, I, L, pX pa pb pu pw) = some (none, (shC, I, fqC L (x.toInt, 1), pX pa pb pu pw)) := by
  have := set_c (d := d) (I := I) (L := L) (pa := pa) (pb := pb) (pu := pu) (pw := pw) x.toInt64 1
  rw [i64_i, show (1 : Int64).toInt = 1 from rfl, fS_1 (i32_b x)] at this
  exact this
theorem set0 (x : Int64) : jv (d + 1) 162 0 [some (.ref 116), some (.long x), none, some (.long 0), none, none, none, none, none, none, none, none] [] (shC, I, L, pX pa pb pu pw) = some (none, (shC, I, fqC L (0, 0), pX pa pb pu pw)) := by
  have := set_c (d := d) (I := I) (L := L) (pa := pa) (pb := pb) (pu := pu) (pw := pw) x 0
  rw [show (0 : Int64).toInt = 0 from rfl, fS_0] at this
  exact this
theorem one_r (x : Int32) : jv (e + 2) 288 0 [some (.ref 0), some (.long x.toInt64), none] [] (shR, J, L, pR) = some (none, (shR, j_up J 0 53 0, fqR L (x.toInt, 1), pR)) := by
  rw [t64 (rfl : x.toInt = x.toInt)]
  exact whole_r (i32_b x)
theorem wdA_b {w : Nat} : fN (wdA m I w) ∧ nz (wdA m I w) := by
  have one : ∀ x : Int32, fN (x.toInt, 1) ∧ nz (x.toInt, 1) := fun x => ⟨fN1 (i32_b x), fun z => absurd z (show ¬ (1 : Int) = 0 by decide)⟩
  have non : fN (0, 0) ∧ nz (0, 0) := ⟨fN0, fun _ => rfl⟩
  unfold wdA
  split
  · exact one _
  split
  · exact one _
  split
  · split
    · exact non
    · exact one _
  split
  · split
    · exact non
    · exact one _
  split
  · split
    · exact non
    · exact one _
  split
  · split
    · exact non
    · exact one _
  · split
    · exact non
    · exact one _
theorem word_c6 {w : Nat} (h1 : 6 ≤ w) (h2 : w < 13) (hm : ∀ q, q < 1189 → I 2 q = m q) : jv (d + 2) 155 0 [some (.ref 116), some (.int (nI w))] [] (shC, I, L, pX pa pb pu pw) = some (none, (shC, I, fqC L (wdA m I w), pX pa pb pu pw)) := by
  rw [B155_0]
  rcases (show w = 6 ∨ w = 7 ∨ w = 8 ∨ w = 9 ∨ w = 10 ∨ w = 11 ∨ w = 12 by omega) with z | z | z | z | z | z | z <;> subst z
  · have e51 : jv (d + 1) 51 0 [some (.ref 1), some (.int 0), some (.int 0), some (.int 0), none] [] (shC, I, L, pX pa pb pu pw) = some (some (.int (I 2 0)), (shC, I, L, pX pa pb pu pw)) := of_1 (a := 0) (b := 0) (c := 0) (by decide) (by decide) (by decide) none
    rw [if_pos (show nI 6 = Int32.ofInt 6 by decide), jgo_some (d := d + 1) rfl e51]
    dsimp only [Option.toList_some, Option.toList_none, List.cons_append, List.nil_append]
    rw [B155_55, hm 0 (by decide), jgo_some (d := d + 1) rfl (set1 (d := d) (m 0))]
    dsimp only [Option.toList_some, Option.toList_none, List.cons_append, List.nil_append]
    rw [B155_60, B155_265]
    rfl
  · have e51 : jv (d + 1) 51 0 [some (.ref 1), some (.int 0), some (.int 0), some (.int 1), none] [] (shC, I, L, pX pa pb pu pw) = some (some (.int (I 2 1)), (shC, I, L, pX pa pb pu pw)) := of_1 (a := 0) (b := 0) (c := 1) (by decide) (by decide) (by decide) none
    rw [if_neg (show ¬ nI 7 = Int32.ofInt 6 by decide), if_pos (show nI 7 = Int32.ofInt 7 by decide), jgo_some (d := d + 1) rfl e51]
    dsimp only [Option.toList_some, Option.toList_none, List.cons_append, List.nil_append]
    rw [B155_74, hm 1 (by decide), jgo_some (d := d + 1) rfl (set1 (d := d) (m 1))]
    dsimp only [Option.toList_some, Option.toList_none, List.cons_append, List.nil_append]
    rw [B155_79, B155_265]
    rfl
  · rw [if_neg (show ¬ nI 8 = Int32.ofInt 6 by decide), if_neg (show ¬ nI 8 = Int32.ofInt 7 by decide), if_pos (show nI 8 = Int32.ofInt 8 by decide)]
    by_cases q : I 83 0 = 0
    · rw [if_pos q, B155_106, jgo_some (d := d + 1) rfl (set0 (d := d) (I 83 2).toInt64)]
      dsimp only [Option.toList_some, Option.toList_none, List.cons_append, List.nil_append]
      rw [B155_109, B155_265, show wdA m I 8 = (0, 0) from if_pos q]
    · rw [if_neg q, B155_106, jgo_some (d := d + 1) rfl (set1 (d := d) (I 83 2))]
      dsimp only [Option.toList_some, Option.toList_none, List.cons_append, List.nil_append]
      rw [B155_109, B155_265, show wdA m I 8 = ((I 83 2).toInt, 1) from if_neg q]
  · rw [if_neg (show ¬ nI 9 = Int32.ofInt 6 by decide), if_neg (show ¬ nI 9 = Int32.ofInt 7 by decide), if_neg (show ¬ nI 9 = Int32.ofInt 8 by decide), if_pos (show nI 9 = Int32.ofInt 9 by decide)]
    by_cases q : I 83 0 = 0
    · rw [if_pos q, B155_144, jgo_some (d := d + 1) rfl (set0 (d := d) (I 83 1 - I 83 2).toInt64)]
      dsimp only [Option.toList_some, Option.toList_none, List.cons_append, List.nil_append]
      rw [B155_147, B155_265, show wdA m I 9 = (0, 0) from if_pos q]
    · rw [if_neg q, B155_144, jgo_some (d := d + 1) rfl (set1 (d := d) (I 83 1 - I 83 2))]
      dsimp only [Option.toList_some, Option.toList_none, List.cons_append, List.nil_append]
      rw [B155_147, B155_265, show wdA m I 9 = ((I 83 1 - I 83 2).toInt, 1) from if_neg q]
  · rw [if_neg (show ¬ nI 10 = Int32.ofInt 6 by decide), if_neg (show ¬ nI 10 = Int32.ofInt 7 by decide), if_neg (show ¬ nI 10 = Int32.ofInt 8 by decide), if_neg (show ¬ nI 10 = Int32.ofInt 9 by decide), if_pos (show nI 10 = Int32.ofInt 10 by decide)]
    have no : jv (d + 2) 155 183 [some (.ref 116), some (.int (nI 10))] [.long ((I 107 2).toInt64), .ref 116] (shC, I, L, pX pa pb pu pw) = some (none, (shC, I, fqC L (0, 0), pX pa pb pu pw)) := by
      rw [B155_183, B155_184, jgo_some (d := d + 1) rfl (set0 (d := d) (I 107 2).toInt64)]
      dsimp only [Option.toList_some, Option.toList_none, List.cons_append, List.nil_append]
      rw [B155_187, B155_265]
    by_cases q : I 107 0 = 0
    · rw [if_pos q, no, show wdA m I 10 = (0, 0) from if_pos (Or.inl q)]
    · rw [if_neg q]
      by_cases y : I 107 2 < 0
      · rw [if_pos y, no, show wdA m I 10 = (0, 0) from if_pos (Or.inr y)]
      · rw [if_neg y, B155_184, jgo_some (d := d + 1) rfl (set1 (d := d) (I 107 2))]
        dsimp only [Option.toList_some, Option.toList_none, List.cons_append, List.nil_append]
        rw [B155_187, B155_265, show wdA m I 10 = ((I 107 2).toInt, 1) from if_neg (show ¬ (I 107 0 = 0 ∨ I 107 2 < 0) from fun x => x.elim q y)]
  · rw [if_neg (show ¬ nI 11 = Int32.ofInt 6 by decide), if_neg (show ¬ nI 11 = Int32.ofInt 7 by decide), if_neg (show ¬ nI 11 = Int32.ofInt 8 by decide), if_neg (show ¬ nI 11 = Int32.ofInt 9 by decide), if_neg (show ¬ nI 11 = Int32.ofInt 10 by decide), if_pos (show nI 11 = Int32.ofInt 11 by decide)]
    by_cases q : I 96 0 = 0
    · rw [if_pos q, B155_214, jgo_some (d := d + 1) rfl (set0 (d := d) (I 96 1).toInt64)]
      dsimp only [Option.toList_some, Option.toList_none, List.cons_append, List.nil_append]
      rw [B155_217, B155_265, show wdA m I 11 = (0, 0) from if_pos q]
    · rw [if_neg q, B155_214, jgo_some (d := d + 1) rfl (set1 (d := d) (I 96 1))]
      dsimp only [Option.toList_some, Option.toList_none, List.cons_append, List.nil_append]
      rw [B155_217, B155_265, show wdA m I 11 = ((I 96 1).toInt, 1) from if_neg q]
  · rw [if_neg (show ¬ nI 12 = Int32.ofInt 6 by decide), if_neg (show ¬ nI 12 = Int32.ofInt 7 by decide), if_neg (show ¬ nI 12 = Int32.ofInt 8 by decide), if_neg (show ¬ nI 12 = Int32.ofInt 9 by decide), if_neg (show ¬ nI 12 = Int32.ofInt 10 by decide), if_neg (show ¬ nI 12 = Int32.ofInt 11 by decide), if_pos (show nI 12 = Int32.ofInt 12 by decide)]
    have no : jv (d + 2) 155 253 [some (.ref 116), some (.int (nI 12))] [.long ((I 107 5).toInt64), .ref 116] (shC, I, L, pX pa pb pu pw) = some (none, (shC, I, fqC L (0, 0), pX pa pb pu pw)) := by
      rw [B155_253, B155_254, jgo_some (d := d + 1) rfl (set0 (d := d) (I 107 5).toInt64)]
      dsimp only [Option.toList_some, Option.toList_none, List.cons_append, List.nil_append]
      rw [B155_257, B155_265]
    by_cases q : I 107 1 = 0
    · rw [if_pos q, no, show wdA m I 12 = (0, 0) from if_pos (Or.inl q)]
    · rw [if_neg q]
      by_cases y : I 107 5 < 0
      · rw [if_pos y, no, show wdA m I 12 = (0, 0) from if_pos (Or.inr y)]
      · rw [if_neg y, B155_254, jgo_some (d := d + 1) rfl (set1 (d := d) (I 107 5))]
        dsimp only [Option.toList_some, Option.toList_none, List.cons_append, List.nil_append]
        rw [B155_257, B155_265, show wdA m I 12 = ((I 107 5).toInt, 1) from if_neg (show ¬ (I 107 1 = 0 ∨ I 107 5 < 0) from fun x => x.elim q y)]
theorem word_r6 {w : Nat} (h1 : 6 ≤ w) (h2 : w < 13) (hk : mK m I J) (hr : knW I J) : ∃ y, jv (e + 3) 291 0 [some (.ref 0), some (.int (nI w))] [] (shR, J, L', pR) = some (none, (shR, j_up J 0 53 y, fqR L' (wdA m I w), pR)) := by
  obtain ⟨⟨r1, r2⟩, ⟨r3, r4⟩, ⟨r5, r6⟩, ⟨r7, r8⟩⟩ := hr
  have nothing : jv (e + 3) 291 266 [some (.ref 0), some (.int (nI w))] [] (shR, J, fqR L' (0, 0), pR) = some (none, (shR, j_up J 0 53 (J 0 53), fqR L' (0, 0), pR)) := by rw [B291_266, j_up_id]
  have one : ∀ x : Int32, jv (e + 2) 288 0 [some (.ref 0), some (.long x.toInt64), none] [] (shR, J, fqR L' (0, 0), pR) = some (none, (shR, j_up J 0 53 0, fqR L' (x.toInt, 1), pR)) := fun x => by rw [one_r (e := e) x, fqR_fqR]
  have go : jv (e + 3) 291 0 [some (.ref 0), some (.int (nI w))] [] (shR, J, L', pR) = jv (e + 3) 291 4 [some (.ref 0), some (.int (nI w))] [] (shR, J, fqR L' (0, 0), pR) := by
    rw [B291_0, jgo_some (d := e + 2) rfl und_r]
    rfl
  rw [go, B291_4]
  rcases (show w = 6 ∨ w = 7 ∨ w = 8 ∨ w = 9 ∨ w = 10 ∨ w = 11 ∨ w = 12 by omega) with z | z | z | z | z | z | z <;> subst z
  · have e51 : jv (e + 2) 214 0 [some (.ref 0), some (.int 0), some (.int 0), some (.int (nI 6 - 6))] [] (shR, J, fqR L' (0, 0), pR) = some (some (.int (nI 0)), (shR, J, fqR L' (0, 0), pR)) := at_ok (t := 0) hk.2.2.2.1 (by decide) 0 0
    refine ⟨0, ?_⟩
    rw [if_neg (show ¬ nI 6 < (6 : Int32) by decide), if_pos (show nI 6 < (8 : Int32) by decide), jgo_some (d := e + 2) rfl e51]
    dsimp only [Option.toList_some, Option.toList_none, List.cons_append, List.nil_append]
    rw [B291_134, if_pos (j_in_nI (by decide) (by decide)), nI_clamp (by decide), hk.2.1 0 (by decide), jgo_some (d := e + 2) rfl (one (m 0))]
    dsimp only [Option.toList_some, Option.toList_none, List.cons_append, List.nil_append]
    rw [B291_139, B291_266]
    rfl
  · have e51 : jv (e + 2) 214 0 [some (.ref 0), some (.int 0), some (.int 0), some (.int (nI 7 - 6))] [] (shR, J, fqR L' (0, 0), pR) = some (some (.int (nI 1)), (shR, J, fqR L' (0, 0), pR)) := at_ok (t := 0) hk.2.2.2.1 (by decide) 0 1
    refine ⟨0, ?_⟩
    rw [if_neg (show ¬ nI 7 < (6 : Int32) by decide), if_pos (show nI 7 < (8 : Int32) by decide), jgo_some (d := e + 2) rfl e51]
    dsimp only [Option.toList_some, Option.toList_none, List.cons_append, List.nil_append]
    rw [B291_134, if_pos (j_in_nI (by decide) (by decide)), nI_clamp (by decide), hk.2.1 1 (by decide), jgo_some (d := e + 2) rfl (one (m 1))]
    dsimp only [Option.toList_some, Option.toList_none, List.cons_append, List.nil_append]
    rw [B291_139, B291_266]
    rfl
  · rw [if_neg (show ¬ nI 8 < (6 : Int32) by decide), if_neg (show ¬ nI 8 < (8 : Int32) by decide), if_pos (show nI 8 < (10 : Int32) by decide), ← r1]
    by_cases q : I 83 0 = 0
    · refine ⟨J 0 53, ?_⟩
      rw [if_pos q, nothing, show wdA m I 8 = (0, 0) from if_pos q]
    · obtain ⟨n, n1, n2, n3, n4, n5⟩ := r2 q
      refine ⟨0, ?_⟩
      rw [if_neg q, if_pos (show nI 8 = (8 : Int32) by decide), B291_180, ← n4, jgo_some (d := e + 2) rfl (one (I 83 2))]
      dsimp only [Option.toList_some, Option.toList_none, List.cons_append, List.nil_append]
      rw [B291_183, B291_266, show wdA m I 8 = ((I 83 2).toInt, 1) from if_neg q]
  · rw [if_neg (show ¬ nI 9 < (6 : Int32) by decide), if_neg (show ¬ nI 9 < (8 : Int32) by decide), if_pos (show nI 9 < (10 : Int32) by decide), ← r1]
    by_cases q : I 83 0 = 0
    · refine ⟨J 0 53, ?_⟩
      rw [if_pos q, nothing, show wdA m I 9 = (0, 0) from if_pos q]
    · obtain ⟨n, n1, n2, n3, n4, n5⟩ := r2 q
      refine ⟨0, ?_⟩
      rw [if_neg q, if_neg (show ¬ nI 9 = (8 : Int32) by decide), B291_180, ← n4, n3, ← n2, jgo_some (d := e + 2) rfl (one (I 83 1 - I 83 2))]
      dsimp only [Option.toList_some, Option.toList_none, List.cons_append, List.nil_append]
      rw [B291_183, B291_266, show wdA m I 9 = ((I 83 1 - I 83 2).toInt, 1) from if_neg q]
  · rw [if_neg (show ¬ nI 10 < (6 : Int32) by decide), if_neg (show ¬ nI 10 < (8 : Int32) by decide), if_neg (show ¬ nI 10 < (10 : Int32) by decide), if_pos (show nI 10 = (10 : Int32) by decide), ← r3]
    by_cases q : I 107 0 = 0
    · refine ⟨J 0 53, ?_⟩
      rw [if_pos q, nothing, show wdA m I 10 = (0, 0) from if_pos (Or.inl q)]
    · rw [if_neg q]
      rcases r4 q with ⟨y1, y2⟩ | ⟨y1, y2⟩
      · refine ⟨J 0 53, ?_⟩
        rw [if_pos y2, nothing, show wdA m I 10 = (0, 0) from if_pos (Or.inr y1)]
      · refine ⟨0, ?_⟩
        rw [← y2, if_neg y1, jgo_some (d := e + 2) rfl (one (I 107 2))]
        dsimp only [Option.toList_some, Option.toList_none, List.cons_append, List.nil_append]
        rw [B291_215, B291_266, show wdA m I 10 = ((I 107 2).toInt, 1) from if_neg (show ¬ (I 107 0 = 0 ∨ I 107 2 < 0) from fun x => x.elim q y1)]
  · rw [if_neg (show ¬ nI 11 < (6 : Int32) by decide), if_neg (show ¬ nI 11 < (8 : Int32) by decide), if_neg (show ¬ nI 11 < (10 : Int32) by decide), if_neg (show ¬ nI 11 = (10 : Int32) by decide), if_pos (show nI 11 = (11 : Int32) by decide), ← r5]
    by_cases q : I 96 0 = 0
    · refine ⟨J 0 53, ?_⟩
      rw [if_pos q, nothing, show wdA m I 11 = (0, 0) from if_pos q]
    · refine ⟨0, ?_⟩
      rw [if_neg q, ← (r6 q).1, jgo_some (d := e + 2) rfl (one (I 96 1))]
      dsimp only [Option.toList_some, Option.toList_none, List.cons_append, List.nil_append]
      rw [B291_240, B291_266, show wdA m I 11 = ((I 96 1).toInt, 1) from if_neg q]
  · rw [if_neg (show ¬ nI 12 < (6 : Int32) by decide), if_neg (show ¬ nI 12 < (8 : Int32) by decide), if_neg (show ¬ nI 12 < (10 : Int32) by decide), if_neg (show ¬ nI 12 = (10 : Int32) by decide), if_neg (show ¬ nI 12 = (11 : Int32) by decide), ← r7]
    by_cases q : I 107 1 = 0
    · refine ⟨J 0 53, ?_⟩
      rw [if_pos q, nothing, show wdA m I 12 = (0, 0) from if_pos (Or.inl q)]
    · rw [if_neg q]
      rcases r8 q with ⟨y1, y2⟩ | ⟨y1, y2, _⟩
      · refine ⟨J 0 53, ?_⟩
        rw [if_pos y2, nothing, show wdA m I 12 = (0, 0) from if_pos (Or.inr y1)]
      · refine ⟨0, ?_⟩
        rw [← y2, if_neg y1, jgo_some (d := e + 2) rfl (one (I 107 5))]
        dsimp only [Option.toList_some, Option.toList_none, List.cons_append, List.nil_append]
        rw [B291_266, show wdA m I 12 = ((I 107 5).toInt, 1) from if_neg (show ¬ (I 107 1 = 0 ∨ I 107 5 < 0) from fun x => x.elim q y1)]
end EVAU
