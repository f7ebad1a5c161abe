/-! ROWS: the first that is not right, in both -/
section ROWI
variable {d e : Nat} {I J : Nat → Nat → Int32} {L L' : Nat → Nat → Int64} {pa pb pu pw : Option Nat} {m : Nat → Int32}
theorem tz0' : ∀ t, t < 13 → z_0.getD t 0 = nI (rowsN.getD t 0) := by decide +kernel
theorem tz2' : ∀ t, t < 13 → z_2.getD t 0 = nI (frN.getD t 0) := by decide +kernel
theorem rows_lt : ∀ t, t < 13 → rowsN.getD t 0 ≤ 24 ∧ frN.getD t 0 + rowsN.getD t 0 ≤ 148 := by decide +kernel
/-- a plate that is wanted has cells as it must -/
def plR (m : Nat → Int32) (k : Nat) : Prop := m (612 + k * 14) = 0 ∨ (m (600 + k * 14) ≠ 0 ∧ ∃ j, j < 12 ∧ (m (600 + k * 14 + j)).toBitVec.getLsbD 0 = true)
theorem row_any (h : mT m I J) {t r : Nat} (h2 : 2 ≤ t) (h10 : t ≤ 10) (hr : r < rowsN.getD t 0) : ∃ b, rwB d e I J L L' pa pb pu pw t r b ∧ (b = 1 → t = 7 → plR m r) := by
  have : t = 2 ∨ t = 3 ∨ t = 4 ∨ t = 5 ∨ t = 6 ∨ t = 7 ∨ t = 8 ∨ t = 9 ∨ t = 10 := by omega
  rcases this with rfl | rfl | rfl | rfl | rfl | rfl | rfl | rfl | rfl
  · obtain ⟨b, hb⟩ := row_2 (d := d) (e := e) (L := L) (L' := L') (pa := pa) (pb := pb) (pu := pu) (pw := pw) h (show r < 16 from hr); exact ⟨b, hb, fun _ z => by cases z⟩
  · obtain ⟨b, hb⟩ := row_3 (d := d) (e := e) (L := L) (L' := L') (pa := pa) (pb := pb) (pu := pu) (pw := pw) h (show r < 24 from hr); exact ⟨b, hb, fun _ z => by cases z⟩
  · obtain ⟨b, hb⟩ := row_4 (d := d) (e := e) (L := L) (L' := L') (pa := pa) (pb := pb) (pu := pu) (pw := pw) h (show r < 16 from hr); exact ⟨b, hb, fun _ z => by cases z⟩
  · obtain ⟨b, hb⟩ := row_5 (d := d) (e := e) (L := L) (L' := L') (pa := pa) (pb := pb) (pu := pu) (pw := pw) h (show r < 8 from hr); exact ⟨b, hb, fun _ z => by cases z⟩
  · obtain ⟨b, hb⟩ := row_6 (d := d) (e := e) (L := L) (L' := L') (pa := pa) (pb := pb) (pu := pu) (pw := pw) h (show r < 24 from hr); exact ⟨b, hb, fun _ z => by cases z⟩
  · obtain ⟨b, hb, hp⟩ := row_7 (d := d) (e := e) (L := L) (L' := L') (pa := pa) (pb := pb) (pu := pu) (pw := pw) h (show r < 8 from hr); exact ⟨b, hb, fun z _ => hp z⟩
  · obtain ⟨b, hb⟩ := row_8 (d := d) (e := e) (L := L) (L' := L') (pa := pa) (pb := pb) (pu := pu) (pw := pw) h (show r < 12 from hr); exact ⟨b, hb, fun _ z => by cases z⟩
  · obtain ⟨b, hb⟩ := row_9 (d := d) (e := e) (L := L) (L' := L') (pa := pa) (pb := pb) (pu := pu) (pw := pw) h (show r < 6 from hr); exact ⟨b, hb, fun _ z => by cases z⟩
  · obtain ⟨b, hb⟩ := row_10 (d := d) (e := e) (L := L) (L' := L') (pa := pa) (pb := pb) (pu := pu) (pw := pw) h (show r < 7 from hr); exact ⟨b, hb, fun _ z => by cases z⟩
/-- the rows that are always right, in the reference -/
theorem row_free (h : mT m I J) {t : Nat} (ht : t = 0 ∨ t = 1 ∨ t = 11) (r : Nat) : jv (e + 5) 243 0 [some (.ref 0), some (.ref 7), some (.int (nI t)), some (.int (nI r)), none] [] (shR, J, L', pR) = some (some (.int 1), (shR, J, L', pR)) := by
  have g : ∀ K, jgo jTT jMM (e + 5) 214 [.ref 0, .int (nI t), .int (nI r), .int 0] (shR, J, L', pR) K = K (some (.int (nI (fpN.getD t 0 + r * fieldsN.getD t 0 + 0)))) (shR, J, L', pR) := fun K => jgo_some rfl (at_ok h.2.2.2 (t := t) (by omega) r 0)
  rw [B243_0_a7, g]
  dsimp only [Option.toList_some, List.cons_append, List.nil_append]
  rw [B243_7_a7]
  rcases ht with rfl | rfl | rfl
  · rw [if_neg (by decide), if_neg (by decide), if_neg (by decide), if_neg (by decide), if_neg (by decide), if_neg (by decide), if_neg (by decide), if_neg (by decide), if_neg (by decide), if_neg (by decide), if_neg (by decide), B243_342_a7, if_pos bl_1]
  · rw [if_neg (by decide), if_neg (by decide), if_neg (by decide), if_neg (by decide), if_neg (by decide), if_neg (by decide), if_neg (by decide), if_neg (by decide), if_neg (by decide), if_neg (by decide), if_neg (by decide), B243_342_a7, if_pos bl_1]
  · rw [if_neg (by decide), if_neg (by decide), if_neg (by decide), if_neg (by decide), if_neg (by decide), if_neg (by decide), if_neg (by decide), if_neg (by decide), if_neg (by decide), if_pos (by decide), B243_342_a7, if_pos bl_1]
theorem free_r (h : mT m I J) {t : Nat} (ht : t = 0 ∨ t = 1 ∨ t = 11) (o3 : Option Value) : ∃ q3, jv (e + 6) 242 2 [some (.ref 0), some (.ref 7), some (.int (nI t)), o3] [] (shR, J, L', pR) = jv (e + 6) 242 2 [some (.ref 0), some (.ref 7), some (.int (nI (t + 1))), q3] [] (shR, J, L', pR) := by
  have ht13 : t < 13 := by omega
  have jt : j_in (nI t) 13 = true := j_in_nI ht13 (by decide)
  have n1 := h.2.2.2.1 t ht13
  have le := (rows_lt t ht13).1
  have key := j_run (fun r => jv (e + 6) 242 10 [some (.ref 0), some (.ref 7), some (.int (nI t)), some (.int (nI r))] [] (shR, J, L', pR)) (rowsN.getD t 0) (fun r hr => by
    rw [B242_10_a7, if_pos jt, nI_clamp (n := t) (by omega), n1, if_pos (nI_lt hr (by omega)), jgo_some rfl (row_free h ht r)]
    dsimp only [Option.toList_some, List.cons_append, List.nil_append]
    rw [B242_27_a7, if_neg (by decide), nI_1])
  refine ⟨some (.int (nI (rowsN.getD t 0))), ?_⟩
  rw [B242_2_a7, if_pos (show nI t < 13 from nI_lt (b := 13) ht13 (by decide))]
  refine (show _ = _ from key).trans ?_
  rw [B242_10_a7, if_pos jt, nI_clamp (n := t) (by omega), n1, if_neg (nI_nlt (Nat.le_refl _) (by omega)), nI_1]
/-- the rows of one table, from one on -/
theorem rows_t (h : mT m I J) {t : Nat} (h2 : 2 ≤ t) (h10 : t ≤ 10) : ∀ (n r : Nat), r + n = rowsN.getD t 0 → (∃ w, w < 148 ∧ jv (d + 6) 60 10 [some (.ref 3), some (.int (nI t)), some (.int (nI r))] [] (shC, I, L, pX pa pb pu pw) = some (some (.int (nI w)), (shC, I, L, pX pa pb pu pw)) ∧ jv (e + 6) 242 10 [some (.ref 0), some (.ref 7), some (.int (nI t)), some (.int (nI r))] [] (shR, J, L', pR) = some (some (.int (nI w)), (shR, J, L', pR))) ∨ (∃ o q, (t = 7 → ∀ k, r ≤ k → k < 8 → plR m k) ∧ jv (d + 6) 60 10 [some (.ref 3), some (.int (nI t)), some (.int (nI r))] [] (shC, I, L, pX pa pb pu pw) = jv (d + 6) 60 2 [some (.ref 3), some (.int (nI (t + 1))), o] [] (shC, I, L, pX pa pb pu pw) ∧ jv (e + 6) 242 10 [some (.ref 0), some (.ref 7), some (.int (nI t)), some (.int (nI r))] [] (shR, J, L', pR) = jv (e + 6) 242 2 [some (.ref 0), some (.ref 7), some (.int (nI (t + 1))), q] [] (shR, J, L', pR)) := by
  have ht13 : t < 13 := by omega
  have jt : j_in (nI t) 13 = true := j_in_nI ht13 (by decide)
  have n1 := h.2.2.2.1 t ht13
  have n3 := h.2.2.2.2.2.1 t ht13
  have le := rows_lt t ht13
  intro n
  induction n with
  | zero =>
    intro r hr
    refine Or.inr ⟨some (.int (nI r)), some (.int (nI r)), fun h7 k hk1 hk2 => ?_, ?_, ?_⟩
    · subst h7
      have : rowsN.getD 7 0 = 8 := rfl
      omega
    · rw [B60_10_o3, if_pos jt, nI_clamp (n := t) (by omega), tz0' t ht13, if_neg (nI_nlt (by omega) (by omega)), nI_1]
    · rw [B242_10_a7, if_pos jt, nI_clamp (n := t) (by omega), n1, if_neg (nI_nlt (by omega) (by omega)), nI_1]
  | succ n ih =>
    intro r hr
    obtain ⟨b, ⟨b1, b2, b3⟩, b4⟩ := row_any (d := d) (e := e) (L := L) (L' := L') (pa := pa) (pb := pb) (pu := pu) (pw := pw) h h2 h10 (show r < rowsN.getD t 0 by omega)
    have kC : jv (d + 6) 60 10 [some (.ref 3), some (.int (nI t)), some (.int (nI r))] [] (shC, I, L, pX pa pb pu pw) = if b = 0 then some (some (.int (nI (frN.getD t 0 + r))), (shC, I, L, pX pa pb pu pw)) else jv (d + 6) 60 10 [some (.ref 3), some (.int (nI t)), some (.int (nI (r + 1)))] [] (shC, I, L, pX pa pb pu pw) := by
      rw [B60_10_o3, if_pos jt, nI_clamp (n := t) (by omega), tz0' t ht13, if_pos (nI_lt (by omega) (by omega)), jgo_some rfl b2]
      dsimp only [Option.toList_some, List.cons_append, List.nil_append]
      rw [B60_25_o3, if_pos jt, nI_clamp (n := t) (by omega), tz2' t ht13, nI_add, nI_1]
    have kR : jv (e + 6) 242 10 [some (.ref 0), some (.ref 7), some (.int (nI t)), some (.int (nI r))] [] (shR, J, L', pR) = if b = 0 then some (some (.int (nI (frN.getD t 0 + r))), (shR, J, L', pR)) else jv (e + 6) 242 10 [some (.ref 0), some (.ref 7), some (.int (nI t)), some (.int (nI (r + 1)))] [] (shR, J, L', pR) := by
      rw [B242_10_a7, if_pos jt, nI_clamp (n := t) (by omega), n1, if_pos (nI_lt (by omega) (by omega)), jgo_some rfl b3]
      dsimp only [Option.toList_some, List.cons_append, List.nil_append]
      rw [B242_27_a7, if_pos jt, nI_clamp (n := t) (by omega), n3, nI_add, nI_1]
    rw [kC, kR]
    by_cases q : b = 0
    · rw [if_pos q, if_pos q]
      exact Or.inl ⟨frN.getD t 0 + r, by omega, rfl, rfl⟩
    · rw [if_neg q, if_neg q]
      rcases ih (r + 1) (by omega) with z | ⟨o, q', z1, z2, z3⟩
      · exact Or.inl z
      · refine Or.inr ⟨o, q', fun h7 k hk1 hk2 => ?_, z2, z3⟩
        by_cases w : k = r
        · rw [w]; exact b4 (b1.resolve_left q) h7
        · exact z1 h7 k (by omega) hk2
/-- the first row that is not right; the rules stand aside -/
theorem fault_sim (h : mT m I J) : (∃ w, w < 148 ∧ jv (d + 6) 60 0 [some (.ref 3), none, none] [] (shC, I, L, pX pa pb pu pw) = some (some (.int (nI w)), (shC, I, L, pX pa pb pu pw)) ∧ jv (e + 6) 242 0 [some (.ref 0), some (.ref 7), none, none] [] (shR, J, L', pR) = some (some (.int (nI w)), (shR, J, L', pR))) ∨ ((∀ k, k < 8 → plR m k) ∧ jv (d + 6) 60 0 [some (.ref 3), none, none] [] (shC, I, L, pX pa pb pu pw) = some (some (.int (-1)), (shC, I, L, pX pa pb pu pw)) ∧ jv (e + 6) 242 0 [some (.ref 0), some (.ref 7), none, none] [] (shR, J, L', pR) = jv (e + 6) 242 10 [some (.ref 0), some (.ref 7), some (.int (nI 12)), some (.int (nI 0))] [] (shR, J, L', pR)) := by
  obtain ⟨q0, f0⟩ := free_r (e := e) (L' := L') h (t := 0) (Or.inl rfl) none
  obtain ⟨q1, f1⟩ := free_r (e := e) (L' := L') h (t := 1) (Or.inr (Or.inl rfl)) q0
  have tabs : ∀ (n t : Nat) (o q : Option Value), 2 ≤ t → t + n = 11 → (∃ w, w < 148 ∧ jv (d + 6) 60 2 [some (.ref 3), some (.int (nI t)), o] [] (shC, I, L, pX pa pb pu pw) = some (some (.int (nI w)), (shC, I, L, pX pa pb pu pw)) ∧ jv (e + 6) 242 2 [some (.ref 0), some (.ref 7), some (.int (nI t)), q] [] (shR, J, L', pR) = some (some (.int (nI w)), (shR, J, L', pR))) ∨ ((t ≤ 7 → ∀ k, k < 8 → plR m k) ∧ jv (d + 6) 60 2 [some (.ref 3), some (.int (nI t)), o] [] (shC, I, L, pX pa pb pu pw) = some (some (.int (-1)), (shC, I, L, pX pa pb pu pw)) ∧ ∃ q', jv (e + 6) 242 2 [some (.ref 0), some (.ref 7), some (.int (nI t)), q] [] (shR, J, L', pR) = jv (e + 6) 242 2 [some (.ref 0), some (.ref 7), some (.int (nI 11)), q'] [] (shR, J, L', pR)) := by
    intro n
    induction n with
    | zero =>
      intro t o q h2 ht
      have : t = 11 := by omega
      subst this
      refine Or.inr ⟨fun z => absurd z (by decide), ?_, q, rfl⟩
      rw [B60_2_o3, if_neg (by decide)]
    | succ n ih =>
      intro t o q h2 ht
      rw [B60_2_o3, if_pos (show nI t < 11 from nI_lt (b := 11) (by omega) (by decide)), B242_2_a7, if_pos (show nI t < 13 from nI_lt (b := 13) (by omega) (by decide))]
      rcases rows_t (d := d) (e := e) (L := L) (L' := L') (pa := pa) (pb := pb) (pu := pu) (pw := pw) h h2 (by omega) (rowsN.getD t 0) 0 (Nat.zero_add _) with ⟨w, w1, w2, w3⟩ | ⟨o', q', z1, z2, z3⟩
      · exact Or.inl ⟨w, w1, w2, w3⟩
      · rcases ih (t + 1) o' q' (by omega) (by omega) with ⟨w, w1, w2, w3⟩ | ⟨y1, y2, q'', y3⟩
        · exact Or.inl ⟨w, w1, (show _ = _ from z2).trans w2, (show _ = _ from z3).trans w3⟩
        · refine Or.inr ⟨fun h7 k hk => ?_, (show _ = _ from z2).trans y2, q'', (show _ = _ from z3).trans y3⟩
          by_cases w : t = 7
          · exact z1 w k (Nat.zero_le _) hk
          · exact y1 (by omega) k hk
  rw [B60_0_o3, B242_0_a7]
  rcases tabs 9 2 none q1 (by decide) rfl with ⟨w, w1, w2, w3⟩ | ⟨y1, y2, q', y3⟩
  · exact Or.inl ⟨w, w1, w2, ((show _ = _ from f0).trans f1).trans w3⟩
  · obtain ⟨q2, f2⟩ := free_r (e := e) (L' := L') h (t := 11) (Or.inr (Or.inr rfl)) q'
    refine Or.inr ⟨y1 (by decide), y2, (((show _ = _ from f0).trans f1).trans y3).trans (f2.trans ?_)⟩
    rw [B242_2_a7, if_pos (by decide)]
    rfl
end ROWI
