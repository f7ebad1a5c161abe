/-! COMMIT, CRASH -/
section SECL
variable {I J I2 J2 I1 J1 : Nat → Nat → Int32} {L L' L2 L2' L1 L1' : Nat → Nat → Int64} {S T : jS} {B g g' N N0 cms z d e : Nat} {m b : Nat → Int32} {F F' : Nat → Int32} {M : Nat → Nat → Int32} {s : Nat → Nat} {pa pb pu pw : Option Nat}
/-- a person's work ends -/
theorem Rel.end0 (hg : gg g g') (hR : Rel g N I J L L') : Rel g N (j_up I 8 0 0) (endJ 0 J) L L' := by
  obtain ⟨F, cms, M, s, z, hb, hl, hk, hr⟩ := id hR
  exact hR.bk hg ⟨⟨perRel.none (by rw [j_up_eq]) (by rw [endJ_9, if_pos rfl]), (hb.1.2.1.end_ne (by decide)).toI (fun c c1 c2 => j_up_cell _ (by omega) _ _), (hb.1.2.2.end_ne (by decide)).toI (fun c c1 c2 => j_up_cell _ (by omega) _ _)⟩, hb.2.1.cg (by rw [j_up_cell _ (by decide)]) (by rw [j_up_cell _ (by decide)]) (by rw [endJ_o _ _ (by decide) (by decide) (by decide) (by decide)]) (by rw [endJ_o _ _ (by decide) (by decide) (by decide) (by decide)]), hb.2.2.1.cg (by rw [j_up_cell _ (by decide)]) (by rw [endJ_o _ _ (by decide) (by decide) (by decide) (by decide)]) (j_up_cell _ (by decide) _ _) (endJ_o _ _ (by decide) (by decide) (by decide) (by decide)), by rw [j_up_cell _ (by decide), endJ_o _ _ (by decide) (by decide) (by decide) (by decide)]; exact hb.2.2.2⟩ (fun c c0 c1 c2 => j_up_cell _ (by omega) _ _) (by rw [j_up_cell _ (by decide)]) (by rw [j_up_cell _ (by decide)]) (fun c c0 c1 _ => endJ_o _ _ (by omega) (by omega) (by omega) (by omega)) (fun q _ _ _ => by rw [endJ_o _ _ (by decide) (by decide) (by decide) (by decide)])
theorem comm_0 (hg : gg g g') (hN : N ≤ B) (hR : Rel g N I J L L') : alk B (jv 1900 176 0 [some (.ref 0), some (.int 0), none, none, none] [] (shC, I, L, pX (some g) (some g') pu pw)) (jv 1900 229 0 [some (.ref 0), some (.int 0), none] [] (shR, J, L', pR)) := by
  have hS : RelS B (shC, I, L, pX (some g) (some g') pu pw) (shR, J, L', pR) := RelS.mk hg hN hR
  obtain ⟨F, cms, M, s, z, hb, hl, hk, hr⟩ := id hR
  have pv : perv 0 = 1 := by decide
  rw [B176_0_p0, g_per_c (d := 1899), B229_0, g_per_r (d := 1899), pv]
  dsimp only [Option.toList_some, Option.toList_none, List.cons_append, List.nil_append]
  rw [B176_4_p0, if_neg (show ¬ (1 : Int32) = 0 by decide), B229_4, if_neg (show ¬ (1 : Int32) = 0 by decide), ← hb.2.2.2]
  by_cases q3 : I 0 11 = 0
  case neg =>
    rw [if_neg q3, if_neg q3]
    exact alk.ask hS ⟨_, rfl, rfl⟩
  rw [if_pos q3, if_pos jin_03, if_pos q3, if_pos jin_03, cl_0]
  have hpp := hb.1.1
  rw [hpp.1]
  by_cases q4 : J 9 0 = 0
  · rw [if_pos q4, if_pos q4]
    exact alk.ask hS ⟨_, rfl, rfl⟩
  rw [if_neg q4, if_neg q4]
  have h9 : J 9 0 = 1 := i01_ne hpp.2.1 q4
  have hp2 : perRel 0 8 (j_up I 0 9 0) J := hpp.toI (fun c c1 c2 => j_up_cell _ (by omega) _ _)
  have hin := hp2.2.2 h9
  have f25 : ∀ r, r < 148 → j_up I 0 9 0 25 r = J 15 r := fun r hr => by rw [j_up_cell _ (by decide)]; exact hl.2.2.2.2.2.2.2.1 r hr
  rcases clash_0 (d := 1899) (e := 1900) (L := L) (L' := L') (pa := some g) (pb := some g') (pu := pu) (pw := pw) hin f25 with ⟨r, hr148, c1, c2⟩ | ⟨c1, c2⟩
  · refine ⟨.int ((-100) - nI r), _, _, ?_, c2.trans ?_, RelS.mk (pu := pu) (pw := pw) hg hN ((hR.bk2 (I2 := j_up I 0 9 0) (J2 := j_up (j_up J 0 21 0) 0 22 (-2)) hg ?_ ?_ ?_ ?_ ?_ ?_).end0 hg)⟩
    · rw [jgo_some (d := 1899) rfl c1]
      dsimp only [Option.toList_some, Option.toList_none, List.cons_append, List.nil_append]
      rw [B176_49_p0, if_neg (show ¬ nI r < 0 from nI_pos (by omega)), if_pos (by decide)]
    · rw [g_end_r (d := 1899) (p := 0) (by decide)]
      dsimp only [Option.toList_some, Option.toList_none, List.cons_append, List.nil_append]
      exact B229_86 _ _ _ _ _
    · refine ⟨hb.1.cg (fun c c1 c2 => j_up_cell _ (by omega) _ _) (fun c c1 c2 => by rw [j_up_cell _ (by omega), j_up_cell _ (by omega)]), ⟨?_, ?_⟩, hb.2.2.1.cg (j_up_own2 _ _ _ (by decide)) (by rw [j_up_own2 _ _ _ (by decide), j_up_own2 _ _ _ (by decide)]) (j_up_cell _ (by decide) _ _) (by rw [j_up_cell _ (by decide), j_up_cell _ (by decide)]), ?_⟩
      · rw [j_up_eq, j_up_own2 _ _ _ (by decide), j_up_eq]
      · rw [j_up_eq, if_pos rfl, j_up_eq]
      · rw [j_up_own2 _ _ _ (by decide), j_up_own2 _ _ _ (by decide), j_up_own2 _ _ _ (by decide)]; exact hb.2.2.2
    · exact fun c hc _ => j_up_cell _ (by omega) _ _
    · exact j_up_own2 _ _ _ (by decide)
    · exact j_up_own2 _ _ _ (by decide)
    · exact fun c c0 _ _ => by rw [j_up_cell _ c0, j_up_cell _ c0]
    · exact fun q _ h21 h22 => by rw [j_up_own2 _ _ _ h22, j_up_own2 _ _ _ h21]
  · obtain ⟨Ib, k1, k2, k3⟩ := copy_c (d := 1899) (L := L) (pa := some g) (pb := some g') (pu := pu) (pw := pw) (I := j_up I 0 9 0)
    have e2 : Ib 2 = I 2 := by rw [k1 2 (by decide), j_up_cell _ (by decide)]
    have hin2 : perIn 0 8 Ib J := (hp2.toI (fun c c1 c2 => k1 c (by omega))).2.2 h9
    obtain ⟨b, Ic, Jc, hm, m1, m2, m3, m4⟩ := lay_0 (d := 1898) (e := 1900) (L := L) (L' := L') (pa := some g) (pb := some g') (pu := pu) (pw := pw) hin2 (fun q hq => by rw [e2, hk.1.1 q hq, hk.1.2.1 q hq]; exact ⟨rfl, hk.1.2.2.1 q hq⟩) (fun q hq => by rw [k2 q hq, k1 2 (by decide)]) hk.1.2.2.2.1
    obtain ⟨x, S1, T1, s1, s2, s3⟩ := settle_go (d := 1899) (e := 1899) (L := L) (L' := L') (pu := pu) (pw := pw) (I2 := Ic) (J2 := Jc) (by decide) (by decide) hg hR q3 (fun c c0 c4 _ => by rw [m1 c c4, k1 c c4, j_up_cell _ c0]) (fun f => by rw [m1 0 (by decide), k1 0 (by decide), j_up_own]) (fun c c7 _ => m2 c c7) hm
    obtain ⟨h, h', N1, I3, J3, L3, L3', pu3, pw3, hg3, hN3, rfl, rfl, hR3⟩ := s3
    have x1 : jgo jTT jMM 1900 73 [.ref 8, .ref 25] (shC, j_up I 0 9 0, L, pX (some g) (some g') pu pw) (fun v S => jv 1900 176 49 [some (.ref 0), some (.int 0), some (.ref 8), none, none] (v.toList ++ []) S) = jv 1900 176 87 [some (.ref 0), some (.int 0), some (.ref 8), some (.int (-1)), none] [.int x] (shC, I3, L3, pX (some h) (some h') pu3 pw3) := by
      rw [jgo_some (d := 1899) rfl c1]
      dsimp only [Option.toList_some, Option.toList_none, List.cons_append, List.nil_append]
      rw [B176_49_p0, if_pos (by decide), jgo_some (d := 1899) rfl k3]
      dsimp only [Option.toList_some, Option.toList_none, List.cons_append, List.nil_append]
      rw [B176_75_p0, jgo_some (d := 1899) rfl m3]
      dsimp only [Option.toList_some, Option.toList_none, List.cons_append, List.nil_append]
      rw [B176_83_p0, jgo_some (d := 1899) rfl s1]
      rfl
    have x2 : jv 1900 229 33 [some (.ref 0), some (.int 0), some (.int 0)] [] (shR, J, L', pR) = jv 1900 229 158 [some (.ref 0), some (.int 0), some (.int (nI 1189))] [.int x] (shR, J3, L3', pR) := by
      refine c2.trans (m4.trans ?_)
      rw [B229_99, if_neg (show ¬ nI 1189 < 1189 by decide), jgo_some (d := 1899) rfl s2]
      rfl
    rw [x1, x2, B176_87_p0, B229_158]
    by_cases q5 : x = -4
    · rw [if_pos q5, if_pos q5, B176_101_p0, B229_170]
      exact ⟨_, _, _, rfl, rfl, RelS.mk hg3 (Nat.le_trans hN3 hN) hR3⟩
    · rw [if_neg q5, if_neg q5, if_pos (by decide), B176_101_p0, g_end_r0 (d := 1899)]
      dsimp only [Option.toList_some, Option.toList_none, List.cons_append, List.nil_append]
      rw [B229_170]
      exact ⟨_, _, _, rfl, rfl, RelS.mk hg3 (Nat.le_trans hN3 hN) (hR3.end0 hg3)⟩
/-- a person's work ends -/
theorem Rel.end1 (hg : gg g g') (hR : Rel g N I J L L') : Rel g N (j_up I 13 0 0) (endJ 1 J) L L' := by
  obtain ⟨F, cms, M, s, z, hb, hl, hk, hr⟩ := id hR
  exact hR.bk hg ⟨⟨(hb.1.1.end_ne (by decide)).toI (fun c c1 c2 => j_up_cell _ (by omega) _ _), perRel.none (by rw [j_up_eq]) (by rw [endJ_9, if_pos rfl]), (hb.1.2.2.end_ne (by decide)).toI (fun c c1 c2 => j_up_cell _ (by omega) _ _)⟩, hb.2.1.cg (by rw [j_up_cell _ (by decide)]) (by rw [j_up_cell _ (by decide)]) (by rw [endJ_o _ _ (by decide) (by decide) (by decide) (by decide)]) (by rw [endJ_o _ _ (by decide) (by decide) (by decide) (by decide)]), hb.2.2.1.cg (by rw [j_up_cell _ (by decide)]) (by rw [endJ_o _ _ (by decide) (by decide) (by decide) (by decide)]) (j_up_cell _ (by decide) _ _) (endJ_o _ _ (by decide) (by decide) (by decide) (by decide)), by rw [j_up_cell _ (by decide), endJ_o _ _ (by decide) (by decide) (by decide) (by decide)]; exact hb.2.2.2⟩ (fun c c0 c1 c2 => j_up_cell _ (by omega) _ _) (by rw [j_up_cell _ (by decide)]) (by rw [j_up_cell _ (by decide)]) (fun c c0 c1 _ => endJ_o _ _ (by omega) (by omega) (by omega) (by omega)) (fun q _ _ _ => by rw [endJ_o _ _ (by decide) (by decide) (by decide) (by decide)])
theorem comm_1 (hg : gg g g') (hN : N ≤ B) (hR : Rel g N I J L L') : alk B (jv 1900 176 0 [some (.ref 0), some (.int 1), none, none, none] [] (shC, I, L, pX (some g) (some g') pu pw)) (jv 1900 229 0 [some (.ref 0), some (.int 1), none] [] (shR, J, L', pR)) := by
  have hS : RelS B (shC, I, L, pX (some g) (some g') pu pw) (shR, J, L', pR) := RelS.mk hg hN hR
  obtain ⟨F, cms, M, s, z, hb, hl, hk, hr⟩ := id hR
  have pv : perv 1 = 1 := by decide
  rw [B176_0_p1, g_per_c (d := 1899), B229_0, g_per_r (d := 1899), pv]
  dsimp only [Option.toList_some, Option.toList_none, List.cons_append, List.nil_append]
  rw [B176_4_p1, if_neg (show ¬ (1 : Int32) = 0 by decide), B229_4, if_neg (show ¬ (1 : Int32) = 0 by decide), ← hb.2.2.2]
  by_cases q3 : I 0 11 = 0
  case neg =>
    rw [if_neg q3, if_neg q3]
    exact alk.ask hS ⟨_, rfl, rfl⟩
  rw [if_pos q3, if_pos jin_13, if_pos q3, if_pos jin_13, cl_1]
  have hpp := hb.1.2.1
  rw [hpp.1]
  by_cases q4 : J 9 1 = 0
  · rw [if_pos q4, if_pos q4]
    exact alk.ask hS ⟨_, rfl, rfl⟩
  rw [if_neg q4, if_neg q4]
  have h9 : J 9 1 = 1 := i01_ne hpp.2.1 q4
  have hp2 : perRel 1 13 (j_up I 0 9 0) J := hpp.toI (fun c c1 c2 => j_up_cell _ (by omega) _ _)
  have hin := hp2.2.2 h9
  have f25 : ∀ r, r < 148 → j_up I 0 9 0 25 r = J 15 r := fun r hr => by rw [j_up_cell _ (by decide)]; exact hl.2.2.2.2.2.2.2.1 r hr
  rcases clash_1 (d := 1899) (e := 1900) (L := L) (L' := L') (pa := some g) (pb := some g') (pu := pu) (pw := pw) hin f25 with ⟨r, hr148, c1, c2⟩ | ⟨c1, c2⟩
  · refine ⟨.int ((-100) - nI r), _, _, ?_, c2.trans ?_, RelS.mk (pu := pu) (pw := pw) hg hN ((hR.bk2 (I2 := j_up I 0 9 0) (J2 := j_up (j_up J 0 21 0) 0 22 (-2)) hg ?_ ?_ ?_ ?_ ?_ ?_).end1 hg)⟩
    · rw [jgo_some (d := 1899) rfl c1]
      dsimp only [Option.toList_some, Option.toList_none, List.cons_append, List.nil_append]
      rw [B176_49_p1, if_neg (show ¬ nI r < 0 from nI_pos (by omega)), if_pos (by decide)]
    · rw [g_end_r (d := 1899) (p := 1) (by decide)]
      dsimp only [Option.toList_some, Option.toList_none, List.cons_append, List.nil_append]
      exact B229_86 _ _ _ _ _
    · refine ⟨hb.1.cg (fun c c1 c2 => j_up_cell _ (by omega) _ _) (fun c c1 c2 => by rw [j_up_cell _ (by omega), j_up_cell _ (by omega)]), ⟨?_, ?_⟩, hb.2.2.1.cg (j_up_own2 _ _ _ (by decide)) (by rw [j_up_own2 _ _ _ (by decide), j_up_own2 _ _ _ (by decide)]) (j_up_cell _ (by decide) _ _) (by rw [j_up_cell _ (by decide), j_up_cell _ (by decide)]), ?_⟩
      · rw [j_up_eq, j_up_own2 _ _ _ (by decide), j_up_eq]
      · rw [j_up_eq, if_pos rfl, j_up_eq]
      · rw [j_up_own2 _ _ _ (by decide), j_up_own2 _ _ _ (by decide), j_up_own2 _ _ _ (by decide)]; exact hb.2.2.2
    · exact fun c hc _ => j_up_cell _ (by omega) _ _
    · exact j_up_own2 _ _ _ (by decide)
    · exact j_up_own2 _ _ _ (by decide)
    · exact fun c c0 _ _ => by rw [j_up_cell _ c0, j_up_cell _ c0]
    · exact fun q _ h21 h22 => by rw [j_up_own2 _ _ _ h22, j_up_own2 _ _ _ h21]
  · obtain ⟨Ib, k1, k2, k3⟩ := copy_c (d := 1899) (L := L) (pa := some g) (pb := some g') (pu := pu) (pw := pw) (I := j_up I 0 9 0)
    have e2 : Ib 2 = I 2 := by rw [k1 2 (by decide), j_up_cell _ (by decide)]
    have hin2 : perIn 1 13 Ib J := (hp2.toI (fun c c1 c2 => k1 c (by omega))).2.2 h9
    obtain ⟨b, Ic, Jc, hm, m1, m2, m3, m4⟩ := lay_1 (d := 1898) (e := 1900) (L := L) (L' := L') (pa := some g) (pb := some g') (pu := pu) (pw := pw) hin2 (fun q hq => by rw [e2, hk.1.1 q hq, hk.1.2.1 q hq]; exact ⟨rfl, hk.1.2.2.1 q hq⟩) (fun q hq => by rw [k2 q hq, k1 2 (by decide)]) hk.1.2.2.2.1
    obtain ⟨x, S1, T1, s1, s2, s3⟩ := settle_go (d := 1899) (e := 1899) (L := L) (L' := L') (pu := pu) (pw := pw) (I2 := Ic) (J2 := Jc) (by decide) (by decide) hg hR q3 (fun c c0 c4 _ => by rw [m1 c c4, k1 c c4, j_up_cell _ c0]) (fun f => by rw [m1 0 (by decide), k1 0 (by decide), j_up_own]) (fun c c7 _ => m2 c c7) hm
    obtain ⟨h, h', N1, I3, J3, L3, L3', pu3, pw3, hg3, hN3, rfl, rfl, hR3⟩ := s3
    have x1 : jgo jTT jMM 1900 73 [.ref 13, .ref 25] (shC, j_up I 0 9 0, L, pX (some g) (some g') pu pw) (fun v S => jv 1900 176 49 [some (.ref 0), some (.int 1), some (.ref 13), none, none] (v.toList ++ []) S) = jv 1900 176 87 [some (.ref 0), some (.int 1), some (.ref 13), some (.int (-1)), none] [.int x] (shC, I3, L3, pX (some h) (some h') pu3 pw3) := by
      rw [jgo_some (d := 1899) rfl c1]
      dsimp only [Option.toList_some, Option.toList_none, List.cons_append, List.nil_append]
      rw [B176_49_p1, if_pos (by decide), jgo_some (d := 1899) rfl k3]
      dsimp only [Option.toList_some, Option.toList_none, List.cons_append, List.nil_append]
      rw [B176_75_p1, jgo_some (d := 1899) rfl m3]
      dsimp only [Option.toList_some, Option.toList_none, List.cons_append, List.nil_append]
      rw [B176_83_p1, jgo_some (d := 1899) rfl s1]
      rfl
    have x2 : jv 1900 229 33 [some (.ref 0), some (.int 1), some (.int 0)] [] (shR, J, L', pR) = jv 1900 229 158 [some (.ref 0), some (.int 1), some (.int (nI 1189))] [.int x] (shR, J3, L3', pR) := by
      refine c2.trans (m4.trans ?_)
      rw [B229_99, if_neg (show ¬ nI 1189 < 1189 by decide), jgo_some (d := 1899) rfl s2]
      rfl
    rw [x1, x2, B176_87_p1, B229_158]
    by_cases q5 : x = -4
    · rw [if_pos q5, if_pos q5, B176_101_p1, B229_170]
      exact ⟨_, _, _, rfl, rfl, RelS.mk hg3 (Nat.le_trans hN3 hN) hR3⟩
    · rw [if_neg q5, if_neg q5, if_pos (by decide), B176_101_p1, g_end_r1 (d := 1899)]
      dsimp only [Option.toList_some, Option.toList_none, List.cons_append, List.nil_append]
      rw [B229_170]
      exact ⟨_, _, _, rfl, rfl, RelS.mk hg3 (Nat.le_trans hN3 hN) (hR3.end1 hg3)⟩
/-- a person's work ends -/
theorem Rel.end2 (hg : gg g g') (hR : Rel g N I J L L') : Rel g N (j_up I 18 0 0) (endJ 2 J) L L' := by
  obtain ⟨F, cms, M, s, z, hb, hl, hk, hr⟩ := id hR
  exact hR.bk hg ⟨⟨(hb.1.1.end_ne (by decide)).toI (fun c c1 c2 => j_up_cell _ (by omega) _ _), (hb.1.2.1.end_ne (by decide)).toI (fun c c1 c2 => j_up_cell _ (by omega) _ _), perRel.none (by rw [j_up_eq]) (by rw [endJ_9, if_pos rfl])⟩, hb.2.1.cg (by rw [j_up_cell _ (by decide)]) (by rw [j_up_cell _ (by decide)]) (by rw [endJ_o _ _ (by decide) (by decide) (by decide) (by decide)]) (by rw [endJ_o _ _ (by decide) (by decide) (by decide) (by decide)]), hb.2.2.1.cg (by rw [j_up_cell _ (by decide)]) (by rw [endJ_o _ _ (by decide) (by decide) (by decide) (by decide)]) (j_up_cell _ (by decide) _ _) (endJ_o _ _ (by decide) (by decide) (by decide) (by decide)), by rw [j_up_cell _ (by decide), endJ_o _ _ (by decide) (by decide) (by decide) (by decide)]; exact hb.2.2.2⟩ (fun c c0 c1 c2 => j_up_cell _ (by omega) _ _) (by rw [j_up_cell _ (by decide)]) (by rw [j_up_cell _ (by decide)]) (fun c c0 c1 _ => endJ_o _ _ (by omega) (by omega) (by omega) (by omega)) (fun q _ _ _ => by rw [endJ_o _ _ (by decide) (by decide) (by decide) (by decide)])
theorem comm_2 (hg : gg g g') (hN : N ≤ B) (hR : Rel g N I J L L') : alk B (jv 1900 176 0 [some (.ref 0), some (.int 2), none, none, none] [] (shC, I, L, pX (some g) (some g') pu pw)) (jv 1900 229 0 [some (.ref 0), some (.int 2), none] [] (shR, J, L', pR)) := by
  have hS : RelS B (shC, I, L, pX (some g) (some g') pu pw) (shR, J, L', pR) := RelS.mk hg hN hR
  obtain ⟨F, cms, M, s, z, hb, hl, hk, hr⟩ := id hR
  have pv : perv 2 = 1 := by decide
  rw [B176_0_p2, g_per_c (d := 1899), B229_0, g_per_r (d := 1899), pv]
  dsimp only [Option.toList_some, Option.toList_none, List.cons_append, List.nil_append]
  rw [B176_4_p2, if_neg (show ¬ (1 : Int32) = 0 by decide), B229_4, if_neg (show ¬ (1 : Int32) = 0 by decide), ← hb.2.2.2]
  by_cases q3 : I 0 11 = 0
  case neg =>
    rw [if_neg q3, if_neg q3]
    exact alk.ask hS ⟨_, rfl, rfl⟩
  rw [if_pos q3, if_pos jin_23, if_pos q3, if_pos jin_23, cl_2]
  have hpp := hb.1.2.2
  rw [hpp.1]
  by_cases q4 : J 9 2 = 0
  · rw [if_pos q4, if_pos q4]
    exact alk.ask hS ⟨_, rfl, rfl⟩
  rw [if_neg q4, if_neg q4]
  have h9 : J 9 2 = 1 := i01_ne hpp.2.1 q4
  have hp2 : perRel 2 18 (j_up I 0 9 0) J := hpp.toI (fun c c1 c2 => j_up_cell _ (by omega) _ _)
  have hin := hp2.2.2 h9
  have f25 : ∀ r, r < 148 → j_up I 0 9 0 25 r = J 15 r := fun r hr => by rw [j_up_cell _ (by decide)]; exact hl.2.2.2.2.2.2.2.1 r hr
  rcases clash_2 (d := 1899) (e := 1900) (L := L) (L' := L') (pa := some g) (pb := some g') (pu := pu) (pw := pw) hin f25 with ⟨r, hr148, c1, c2⟩ | ⟨c1, c2⟩
  · refine ⟨.int ((-100) - nI r), _, _, ?_, c2.trans ?_, RelS.mk (pu := pu) (pw := pw) hg hN ((hR.bk2 (I2 := j_up I 0 9 0) (J2 := j_up (j_up J 0 21 0) 0 22 (-2)) hg ?_ ?_ ?_ ?_ ?_ ?_).end2 hg)⟩
    · rw [jgo_some (d := 1899) rfl c1]
      dsimp only [Option.toList_some, Option.toList_none, List.cons_append, List.nil_append]
      rw [B176_49_p2, if_neg (show ¬ nI r < 0 from nI_pos (by omega)), if_pos (by decide)]
    · rw [g_end_r (d := 1899) (p := 2) (by decide)]
      dsimp only [Option.toList_some, Option.toList_none, List.cons_append, List.nil_append]
      exact B229_86 _ _ _ _ _
    · refine ⟨hb.1.cg (fun c c1 c2 => j_up_cell _ (by omega) _ _) (fun c c1 c2 => by rw [j_up_cell _ (by omega), j_up_cell _ (by omega)]), ⟨?_, ?_⟩, hb.2.2.1.cg (j_up_own2 _ _ _ (by decide)) (by rw [j_up_own2 _ _ _ (by decide), j_up_own2 _ _ _ (by decide)]) (j_up_cell _ (by decide) _ _) (by rw [j_up_cell _ (by decide), j_up_cell _ (by decide)]), ?_⟩
      · rw [j_up_eq, j_up_own2 _ _ _ (by decide), j_up_eq]
      · rw [j_up_eq, if_pos rfl, j_up_eq]
      · rw [j_up_own2 _ _ _ (by decide), j_up_own2 _ _ _ (by decide), j_up_own2 _ _ _ (by decide)]; exact hb.2.2.2
    · exact fun c hc _ => j_up_cell _ (by omega) _ _
    · exact j_up_own2 _ _ _ (by decide)
    · exact j_up_own2 _ _ _ (by decide)
    · exact fun c c0 _ _ => by rw [j_up_cell _ c0, j_up_cell _ c0]
    · exact fun q _ h21 h22 => by rw [j_up_own2 _ _ _ h22, j_up_own2 _ _ _ h21]
  · obtain ⟨Ib, k1, k2, k3⟩ := copy_c (d := 1899) (L := L) (pa := some g) (pb := some g') (pu := pu) (pw := pw) (I := j_up I 0 9 0)
    have e2 : Ib 2 = I 2 := by rw [k1 2 (by decide), j_up_cell _ (by decide)]
    have hin2 : perIn 2 18 Ib J := (hp2.toI (fun c c1 c2 => k1 c (by omega))).2.2 h9
    obtain ⟨b, Ic, Jc, hm, m1, m2, m3, m4⟩ := lay_2 (d := 1898) (e := 1900) (L := L) (L' := L') (pa := some g) (pb := some g') (pu := pu) (pw := pw) hin2 (fun q hq => by rw [e2, hk.1.1 q hq, hk.1.2.1 q hq]; exact ⟨rfl, hk.1.2.2.1 q hq⟩) (fun q hq => by rw [k2 q hq, k1 2 (by decide)]) hk.1.2.2.2.1
    obtain ⟨x, S1, T1, s1, s2, s3⟩ := settle_go (d := 1899) (e := 1899) (L := L) (L' := L') (pu := pu) (pw := pw) (I2 := Ic) (J2 := Jc) (by decide) (by decide) hg hR q3 (fun c c0 c4 _ => by rw [m1 c c4, k1 c c4, j_up_cell _ c0]) (fun f => by rw [m1 0 (by decide), k1 0 (by decide), j_up_own]) (fun c c7 _ => m2 c c7) hm
    obtain ⟨h, h', N1, I3, J3, L3, L3', pu3, pw3, hg3, hN3, rfl, rfl, hR3⟩ := s3
    have x1 : jgo jTT jMM 1900 73 [.ref 18, .ref 25] (shC, j_up I 0 9 0, L, pX (some g) (some g') pu pw) (fun v S => jv 1900 176 49 [some (.ref 0), some (.int 2), some (.ref 18), none, none] (v.toList ++ []) S) = jv 1900 176 87 [some (.ref 0), some (.int 2), some (.ref 18), some (.int (-1)), none] [.int x] (shC, I3, L3, pX (some h) (some h') pu3 pw3) := by
      rw [jgo_some (d := 1899) rfl c1]
      dsimp only [Option.toList_some, Option.toList_none, List.cons_append, List.nil_append]
      rw [B176_49_p2, if_pos (by decide), jgo_some (d := 1899) rfl k3]
      dsimp only [Option.toList_some, Option.toList_none, List.cons_append, List.nil_append]
      rw [B176_75_p2, jgo_some (d := 1899) rfl m3]
      dsimp only [Option.toList_some, Option.toList_none, List.cons_append, List.nil_append]
      rw [B176_83_p2, jgo_some (d := 1899) rfl s1]
      rfl
    have x2 : jv 1900 229 33 [some (.ref 0), some (.int 2), some (.int 0)] [] (shR, J, L', pR) = jv 1900 229 158 [some (.ref 0), some (.int 2), some (.int (nI 1189))] [.int x] (shR, J3, L3', pR) := by
      refine c2.trans (m4.trans ?_)
      rw [B229_99, if_neg (show ¬ nI 1189 < 1189 by decide), jgo_some (d := 1899) rfl s2]
      rfl
    rw [x1, x2, B176_87_p2, B229_158]
    by_cases q5 : x = -4
    · rw [if_pos q5, if_pos q5, B176_101_p2, B229_170]
      exact ⟨_, _, _, rfl, rfl, RelS.mk hg3 (Nat.le_trans hN3 hN) hR3⟩
    · rw [if_neg q5, if_neg q5, if_pos (by decide), B176_101_p2, g_end_r2 (d := 1899)]
      dsimp only [Option.toList_some, Option.toList_none, List.cons_append, List.nil_append]
      rw [B229_170]
      exact ⟨_, _, _, rfl, rfl, RelS.mk hg3 (Nat.le_trans hN3 hN) (hR3.end2 hg3)⟩
/-- commit -/
theorem a_commit (h : RelS B S T) (x : Int32) : alk B (jv 1900 176 0 [some (.ref 0), some (.int x), none, none, none] [] S) (jv 1900 229 0 [some (.ref 0), some (.int x), none] [] T) := by
  obtain ⟨g, g', N, I, J, L, L', pu, pw, hg, hN, rfl, rfl, hR⟩ := h
  have hS : RelS B (shC, I, L, pX (some g) (some g') pu pw) (shR, J, L', pR) := RelS.mk hg hN hR
  by_cases p : perv x = 0
  · exact alk.ask hS ⟨.int (-1), by rw [B176_0_u, g_per_c (d := 1899), p]; show jv 1900 176 4 _ [.int 0] _ = _; rw [B176_4_u, if_pos rfl], by rw [B229_0, g_per_r (d := 1899), p]; show jv 1900 229 4 _ [.int 0] _ = _; rw [B229_4, if_pos rfl]⟩
  rcases perv_1 p with rfl | rfl | rfl
  · exact comm_0 hg hN hR
  · exact comm_1 hg hN hR
  · exact comm_2 hg hN hR
end SECL
