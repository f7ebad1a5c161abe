/-! RULES: one part of a product -/
section PARQ
variable {T : Nat} {K P : Nat → Nat} {W : Nat → List Nat} {U : Nat → Nat} {Q : Nat} {nm : Nat → List Nat} {kd nb : Nat → Nat} {nl nt nu s : Nat} {cw : Nat → List Nat} {rho : Nat → Nat} {lam : Nat} {pa pb pw : Option Nat}
theorem factor_sim38 {d e h : Nat} {D D' : Int32} (hD : (24 < D ∧ D' = 24) ∨ (¬ 24 < D ∧ D' ≠ 24)) (hs : ¬ 24 < D → s < 24) (Hf : ∀ (I : Nat → Nat → Int32) (L : Nat → Nat → Int64) (J : Nat → Nat → Int32) (L' : Nat → Nat → Int64) (now nc nr : Nat), pOk 38 T K P W U Q nm kd nb nl nt nu s cw rho now nc nr I L J L' → jW2 (jv (d + 7) 27 0 [some (.ref 27), some (.int (D + 1)), none] [] (shC, I, L, pX pa pb (some 38) pw)) (jv (e + 7) 272 0 [some (.ref 0), some (.int (D' + 1)), none, none, none, none] [] (shR, J, L', pR)) (eQ 38 T K P nl nt lam s rho h true now nc nr I L J L' (pX pa pb (some 38) pw))) (Hc : ∀ (I : Nat → Nat → Int32) (L : Nat → Nat → Int64) (J : Nat → Nat → Int32) (L' : Nat → Nat → Int64) (now nc nr : Nat), pOk 38 T K P W U Q nm kd nb nl nt nu s cw rho now nc nr I L J L' → jW2 (jv (d + 6) 21 0 [some (.ref 27), some (.int (D + 1)), none, none, none, none] [] (shC, I, L, pX pa pb (some 38) pw)) (jv (e + 6) 267 0 [some (.ref 0), some (.int (D' + 1)), none] [] (shR, J, L', pR)) (eQ 38 T K P nl nt lam s rho h false now nc nr I L J L' (pX pa pb (some 38) pw))) (Hs : ∀ (I : Nat → Nat → Int32) (L : Nat → Nat → Int64) (J : Nat → Nat → Int32) (L' : Nat → Nat → Int64) (now nc nr : Nat), pOk 38 T K P W U Q nm kd nb nl nt nu s cw rho now nc nr I L J L' → jW2 (jv (d + 6) 25 0 [some (.ref 27), some (.int (D + 1)), none, none, none, none, none] [] (shC, I, L, pX pa pb (some 38) pw)) (jv (e + 6) 270 0 [some (.ref 0), some (.int (D' + 1)), none, none] [] (shR, J, L', pR)) (eQ 38 T K P nl nt lam s rho h true now nc nr I L J L' (pX pa pb (some 38) pw))) (Hs5 : ∀ (I : Nat → Nat → Int32) (L : Nat → Nat → Int64) (J : Nat → Nat → Int32) (L' : Nat → Nat → Int64) (now nc nr : Nat), pOk 38 T K P W U Q nm kd nb nl nt nu s cw rho now nc nr I L J L' → jW2 (jv (d + 5) 25 0 [some (.ref 27), some (.int (D + 1)), none, none, none, none, none] [] (shC, I, L, pX pa pb (some 38) pw)) (jv (e + 5) 270 0 [some (.ref 0), some (.int (D' + 1)), none, none] [] (shR, J, L', pR)) (eQ 38 T K P nl nt lam s rho h true now nc nr I L J L' (pX pa pb (some 38) pw))) (Hs7 : ∀ (I : Nat → Nat → Int32) (L : Nat → Nat → Int64) (J : Nat → Nat → Int32) (L' : Nat → Nat → Int64) (now nc nr : Nat), pOk 38 T K P W U Q nm kd nb nl nt nu s cw rho now nc nr I L J L' → jW2 (jv (d + 6) 25 0 [some (.ref 27), some (.int (D + 1)), none, none, none, none, none] [] (shC, I, L, pX pa pb (some 38) pw)) (jv (e + 7) 270 0 [some (.ref 0), some (.int (D' + 1)), none, none] [] (shR, J, L', pR)) (eQ 38 T K P nl nt lam s rho h true now nc nr I L J L' (pX pa pb (some 38) pw))) (Hb : ∀ (w' : List Nat) (r' : Nat) (I : Nat → Nat → Int32) (L : Nat → Nat → Int64) (J : Nat → Nat → Int32) (L' : Nat → Nat → Int64) (now nc nr : Nat), s < 24 → pOk 38 T K P W U Q nm kd nb nl nt nu (s + 1) (upW cw s w') (upN rho s r') now nc nr I L J L' → jW2 (jv (d + 6) 25 0 [some (.ref 27), some (.int (D + 1)), none, none, none, none, none] [] (shC, I, L, pX pa pb (some 38) pw)) (jv (e + 6) 270 0 [some (.ref 0), some (.int (D' + 1)), none, none] [] (shR, J, L', pR)) (eQ 38 T K P nl nt lam (s + 1) (upN rho s r') h true now nc nr I L J L' (pX pa pb (some 38) pw))) {I J : Nat → Nat → Int32} {L L' : Nat → Nat → Int64} {now nc nr : Nat} (ok : pOk 38 T K P W U Q nm kd nb nl nt nu s cw rho now nc nr I L J L') : jW2 (jv (d + 8) 27 0 [some (.ref 27), some (.int D), none] [] (shC, I, L, pX pa pb (some 38) pw)) (jv (e + 8) 272 0 [some (.ref 0), some (.int D'), none, none, none, none] [] (shR, J, L', pR)) (eQ 38 T K P nl nt lam s rho (h + 1) true now nc nr I L J L' (pX pa pb (some 38) pw)) := by
  have hg : 38 = 38 ∨ 38 = 49 := by decide
  obtain ⟨tk, kw, hN, hC, a5, a6, a7, a8, a9, a10, a11, a12, a13⟩ := id ok
  have hT := ok.1.1
  have tq := tk.2.2.2.1 now a5
  rw [B27_0_g38, B272_0, if_pos a9, a10, a11, if_pos (j_in_nI (by omega) (by decide)), nI_clamp (by omega), tq.2.2.2.1]
  rcases hD with ⟨dc, dr⟩ | ⟨dc, dr⟩
  · rw [if_pos dc, if_pos dr, show (5 : Int32) = nI 5 from rfl, jgo_some (d := d + 7) rfl (fail_c tk a5 a8 5), jgo_some (d := e + 7) rfl (fails_rk a9 5 (P now))]
    dsimp only [Option.toList_some, Option.toList_none, List.cons_append, List.nil_append]
    rw [B27_15_g38, B272_31]
    exact jW2_some (eQ.f (eSt.fl hg ok.st (by decide) (by omega)) _ _)
  have hs := hs dc
  have i45 := is_r (e := e + 7) tk a5 a11 (k := 45) (by decide)
  rw [show nI (kR 45) = (45 : Int32) from rfl] at i45
  rw [if_neg dc, if_neg dr, jgo_some (d := e + 7) rfl i45, show (45 : Int32) = nI 45 from rfl, jgo_some (d := d + 7) rfl (now_c tk a5 a8 a10 (k := 45) (by decide))]
  dsimp only [Option.toList_some, Option.toList_none, List.cons_append, List.nil_append]
  rw [B27_22_g38, B272_40]
  by_cases q1 : K now = 45
  · have lt : now < T := tk.lt a5 q1 (by decide)
    have st1 := eSt.adv hg ok.st lt
    have ok1 : pOk 38 T K P W U Q nm kd nb nl nt nu s cw rho (now + 1) nc nr (j_up I 27 7 (nI (now + 1))) L (j_up J 0 28 (nI (now + 1))) L' := eSt.ok hg ok st1 (by rw [j_up_own, if_neg (by decide)]; exact a9)
    rw [if_pos q1, if_neg (by decide), if_neg (by decide), a10, a11, show nI now + 1 = nI (now + 1) from nI_add now 1]
    refine jW2_go rfl rfl (Hf _ _ _ _ _ _ _ ok1) ?_
    intro v S w S' hq
    obtain ⟨I2, L2, J2, L2', x, y, rfl, rfl, rfl, rfl, hh⟩ := id hq
    dsimp only [Option.toList_some, Option.toList_none, List.cons_append, List.nil_append]
    rw [B27_49_g38, B272_63]
    exact unary38 (d := d + 7) (e := e + 7) (b := true) (b2 := true) ok lt 6 11 x y hq (fun C R V w n k n1 k1 c0 c1 r0 r1 z => Or.inl ⟨rfl, Or.inr (Or.inr (Or.inr (Or.inr (Or.inr (Or.inr (Or.inl ⟨c0, r0, n1, k1, c1, r1, z⟩))))))⟩) _ _ _ (fun x' S y' S' hz => by
      obtain ⟨I3, L3, J3, L3', x3, y3, e1, e2, rfl, rfl, _⟩ := id hz
      dsimp only [Option.toList_some, Option.toList_none, List.cons_append, List.nil_append]
      rw [B27_54_g38, B272_69]
      exact jW2_some hz)
  have i48 := is_r (e := e + 7) tk a5 a11 (k := 48) (by decide)
  rw [show nI (kR 48) = (2 : Int32) from rfl] at i48
  rw [if_neg q1, if_pos rfl, if_pos rfl, jgo_some (d := e + 7) rfl i48, show (48 : Int32) = nI 48 from rfl, jgo_some (d := d + 7) rfl (now_c tk a5 a8 a10 (k := 48) (by decide))]
  dsimp only [Option.toList_some, Option.toList_none, List.cons_append, List.nil_append]
  rw [B27_61_g38, B272_75]
  by_cases q2 : K now = 48
  · have lt : now < T := tk.lt a5 q2 (by decide)
    have st1 := eSt.adv hg ok.st lt
    obtain ⟨u1, u2, u3⟩ := tk.2.2.2.2.2.2 now lt q2
    rw [if_pos q2, if_neg (show ¬ (1 : Int32) = 0 by decide), if_neg (show ¬ (1 : Int32) = 0 by decide), a10, a11, show nI now + 1 = nI (now + 1) from nI_add now 1, j_up_own, if_pos rfl, j_up_own, if_pos rfl, nI_prd, if_pos (j_in_nI (by omega) (by decide)), if_pos (j_in_nI (by omega) (by decide)), nI_clamp (by omega), u2, u3, lgN_i (show U now < 2 ^ 31 by omega)]
    rw [jgo_some (d := d + 7) rfl (add_c38 (d := d + 7) (I := j_up I 27 7 (nI (now + 1))) (L := L) (pa := pa) (pb := pb) (pu := some 38) (pw := pw) (by rw [j_up_cell _ (by decide)]; exact a12) (show nc < 1201 by omega) 0 (nI (U now)) (-1) (-1) (-1)), jgo_some (d := e + 7) rfl (node_r (e := e + 7) (J := j_up J 0 28 (nI (now + 1))) (L' := L') (by rw [j_up_own, if_neg (by decide)]; exact a13) (show nr < 1400 by omega) 1 0 0 0 (lgN (U now)))]
    dsimp only [Option.toList_some, Option.toList_none, List.cons_append, List.nil_append]
    rw [B27_97_g38, B272_107]
    have st2 := eSt.add hg st1 (by omega) (by omega) 0 (nI (U now)) (-1) (-1) (-1) 1 0 0 0 (lgN (U now))
    refine jW2_some (eQ.ok (now' := now + 1) (nc' := nc + 1) (nr' := nr + 1) (by omega) st2 ?_ ?_)
    · rw [(adR_at (J := j_up J 0 28 (nI (now + 1))) nr 1 0 0 0).2.2.2.2.2.2.1 29 (by decide), j_up_own, if_neg (by decide)]; exact a9
    · exact pst.one (by omega) (by omega) (by omega) _ _ _ _ _ _ _ _ _ _ (fun C R V c0 c1 c2 c3 c4 r0 r1 r2 r3 v0 => Or.inl ⟨c0, r0, U now, u1, c4, v0⟩)
  have i40 := is_r (e := e + 7) tk a5 a11 (k := 40) (by decide)
  rw [show nI (kR 40) = (40 : Int32) from rfl] at i40
  rw [if_neg q2, if_pos rfl, if_pos rfl, jgo_some (d := e + 7) rfl i40, show (40 : Int32) = nI 40 from rfl, jgo_some (d := d + 7) rfl (now_c tk a5 a8 a10 (k := 40) (by decide))]
  dsimp only [Option.toList_some, Option.toList_none, List.cons_append, List.nil_append]
  rw [B27_104_g38, B272_114]
  by_cases q3 : K now = 40
  · have lt : now < T := tk.lt a5 q3 (by decide)
    have st1 := eSt.adv hg ok.st lt
    have ok1 : pOk 38 T K P W U Q nm kd nb nl nt nu s cw rho (now + 1) nc nr (j_up I 27 7 (nI (now + 1))) L (j_up J 0 28 (nI (now + 1))) L' := eSt.ok hg ok st1 (by rw [j_up_own, if_neg (by decide)]; exact a9)
    rw [if_pos q3, if_neg (by decide), if_neg (by decide), a11, show nI now + 1 = nI (now + 1) from nI_add now 1]
    -- the first reader goes through its method of brackets
    have key : jW2 (jv (d + 7) 28 0 [some (.ref 27), some (.int D), none] [] (shC, I, L, pX pa pb (some 38) pw)) (jgo jTT jMM (e + 8) 270 [.ref 0, .int (D' + 1)] (shR, j_up J 0 28 (nI (now + 1)), L', pR) (fun v S => jv (e + 8) 272 134 [some (.ref 0), some (.int D'), some (.int (nI (P now))), none, none, none] (v.toList ++ []) S)) (eQ 38 T K P nl nt lam s rho (h + 1) true now nc nr I L J L' (pX pa pb (some 38) pw)) := by
      rw [B28_0, show (40 : Int32) = nI 40 from rfl, jgo_some (d := d + 6) rfl (expect_c1 (d := d + 5) tk a5 a8 a10 (by decide) q3)]
      dsimp only [Option.toList_some, Option.toList_none, List.cons_append, List.nil_append]
      rw [B28_6]
      refine jW2_go rfl rfl (Hs7 _ _ _ _ _ _ _ ok1) ?_
      intro v S w S' hq
      obtain ⟨I5, L5, J5, L5', x, y, rfl, rfl, rfl, rfl, vc5, vr5, I6, J6, ec5, er5, hw5⟩ := eQ.w (d := d + 5) (e := e + 6) hg ok st1 hq (k := 41) (by decide) (by decide) (by decide)
      dsimp only [Option.toList_some, Option.toList_none, List.cons_append, List.nil_append]
      rw [B28_14, B272_134, show (41 : Int32) = nI 41 from rfl, jgo_some (d := d + 6) rfl ec5, show nI 41 = nI (kR 41) from rfl, jgo_some (d := e + 7) rfl er5]
      dsimp only [Option.toList_some, Option.toList_none, List.cons_append, List.nil_append]
      rw [B28_21, B272_141]
      rcases hw5 with ⟨now5, nc5, nr5, n1, k1, rfl, rfl, lt5, gc5, gr5, hc5, hr5, st5, fc5, fr5, h295, p5, v5⟩ | ⟨m1, c1, m2, r2, v0, hf⟩
      · exact jW2_some (eQ.ok (by omega) st5 h295 (p5.eqs (by omega) (by omega) (fun _ _ => rfl) (fun _ _ => rfl) rfl))
      · exact jW2_some (eQ.f hf _ _)
    refine jW2_goL rfl key ?_
    rintro v S w S' hq
    obtain ⟨I5, L5, J5, L5', x, y, rfl, rfl, rfl, rfl, _⟩ := id hq
    dsimp only [Option.toList_some, Option.toList_none, List.cons_append, List.nil_append]
    rw [B27_112_g38]
    exact ⟨_, _, rfl, hq⟩
  have i97 := is_r (e := e + 7) tk a5 a11 (k := 97) (by decide)
  rw [show nI (kR 97) = (1 : Int32) from rfl] at i97
  rw [if_neg q3, if_pos rfl, if_pos rfl, jgo_some (d := e + 7) rfl i97, show (97 : Int32) = nI 97 from rfl, jgo_some (d := d + 7) rfl (now_c tk a5 a8 a10 (k := 97) (by decide))]
  dsimp only [Option.toList_some, Option.toList_none, List.cons_append, List.nil_append]
  rw [B27_119_g38, B272_149]
  by_cases q4 : K now = 97
  case neg =>
    rw [if_neg q4, if_pos rfl, if_pos rfl, a10, show (2 : Int32) = nI 2 from rfl, jgo_some (d := d + 7) rfl (fail_c tk a5 a8 2), jgo_some (d := e + 7) rfl (fails_rk a9 2 (P now))]
    dsimp only [Option.toList_some, Option.toList_none, List.cons_append, List.nil_append]
    rw [B27_131_g38, B272_158]
    exact jW2_some (eQ.f (eSt.fl hg ok.st (by decide) (by omega)) _ _)
  have lt : now < T := tk.lt a5 q4 (by decide)
  obtain ⟨u1, u2, u3⟩ := tk.2.2.2.2.2.1 now lt q4
  obtain ⟨r, e1, f1⟩ := key_c (d := d + 6) (pa := pa) (pb := pb) (pu := some 38) (pw := pw) kw tk a5 a10 q4
  obtain ⟨r', e2, f2⟩ := among_2008 (e := e + 7) (J := J) (L' := L') u1 none none none none
  have hr : r' = r := f2.uniq f1 (fun _ _ => Iff.rfl)
  rw [hr] at e2
  rw [if_pos q4, if_neg (by decide), if_neg (by decide), a11, if_pos (j_in_nI (by omega) (by decide)), nI_clamp (by omega), u3, jgo_some (d := d + 7) rfl e1, jgo_some (d := e + 7) rfl e2]
  dsimp only [Option.toList_some, Option.toList_none, List.cons_append, List.nil_append]
  rw [B27_136_g38, B272_178]
  have bad : jW2 (jgo jTT jMM (d + 8) 7 [.ref 27, .int 2, .int (I 27 7)] (shC, I, L, pX pa pb (some 38) pw) (fun v S => jv (d + 8) 27 184 [some (.ref 27), some (.int D), some (.int r)] (v.toList ++ []) S)) (jv (e + 8) 272 198 [some (.ref 0), some (.int D'), some (.int (nI (P now))), some (.long (lgN (nR (W now)))), none, some (.int r)] [] (shR, J, L', pR)) (eQ 38 T K P nl nt lam s rho (h + 1) true now nc nr I L J L' (pX pa pb (some 38) pw)) := by
    rw [B272_198, a10, show (2 : Int32) = nI 2 from rfl, jgo_some (d := d + 7) rfl (fail_c tk a5 a8 2), jgo_some (d := e + 7) rfl (fails_rk a9 2 (P now))]
    dsimp only [Option.toList_some, Option.toList_none, List.cons_append, List.nil_append]
    rw [B27_184_g38, B27_192_g38, B272_204]
    exact jW2_some (eQ.f (eSt.fl hg ok.st (by decide) (by omega)) _ _)
  rcases f1 with ⟨i, i1, i2, i3, rfl⟩ | ⟨i1, rfl⟩
  case inr =>
    rw [if_neg (by decide), if_pos (by decide), B27_171_g38, if_pos (by decide), if_pos (by decide), B272_207, if_neg (by decide), if_neg (by decide), a11, show nI now + 1 = nI (now + 1) from nI_add now 1]
    refine jW2_go rfl rfl (mean_sim38 Hs5 ok q4) ?_
    intro v S w S' hq
    obtain ⟨I5, L5, J5, L5', x, y, rfl, rfl, rfl, rfl, _⟩ := id hq
    dsimp only [Option.toList_some, Option.toList_none, List.cons_append, List.nil_append]
    rw [B27_192_g38, B272_256]
    exact jW2_some hq
  have n0 : ¬ nI i < 0 := nI_pos (by omega)
  rw [if_neg n0]
  by_cases c3 : i = 3
  · subst c3
    rw [if_pos (show nI 3 = (3 : Int32) from rfl), if_neg (show ¬ nI 3 < (3 : Int32) by decide), if_neg (show ¬ (6 : Int32) < nI 3 by decide), B272_207, if_pos (show nI 3 = (3 : Int32) from rfl), a11, show nI now + 1 = nI (now + 1) from nI_add now 1]
    refine jW2_go rfl rfl (choice_sim38 Hc Hs ok lt) ?_
    intro v S w S' hq
    obtain ⟨I5, L5, J5, L5', x, y, rfl, rfl, rfl, rfl, _⟩ := id hq
    dsimp only [Option.toList_some, Option.toList_none, List.cons_append, List.nil_append]
    rw [B27_147_g38, B272_228, B272_256]
    exact jW2_some hq
  have n3 : ¬ nI i = 3 := fun z => c3 ((nI_eq (b := 3) (by omega) (by decide)).mp z)
  rw [if_neg n3]
  by_cases c4 : i < 4
  · rw [if_pos (show nI i < (4 : Int32) from nI_lt (b := 4) c4 (by decide)), if_pos (show nI i < (3 : Int32) from nI_lt (b := 3) (by omega) (by decide)), B27_171_g38, if_neg n0]
    exact bad
  rw [if_neg (show ¬ nI i < (4 : Int32) from nI_nlt (b := 4) (by omega) (by omega)), if_neg (show ¬ nI i < (3 : Int32) from nI_nlt (b := 3) (by omega) (by omega))]
  by_cases c6 : 6 < i
  · rw [if_pos (show (6 : Int32) < nI i from nI_lt (a := 6) c6 (by omega)), if_pos (show (6 : Int32) < nI i from nI_lt (a := 6) c6 (by omega)), B27_171_g38, if_neg n0]
    exact bad
  have n6 : ¬ (6 : Int32) < nI i := nI_nlt (a := 6) (by omega) (by omega)
  rw [if_neg n6, if_neg n6, B272_207, if_neg n3, if_pos (show (3 : Int32) < nI i from nI_lt (a := 3) (by omega) (by omega)), a11, show nI now + 1 = nI (now + 1) from nI_add now 1]
  obtain ⟨j, rfl⟩ : ∃ j, i = 4 + j := ⟨i - 4, by omega⟩
  rw [show (9 : Int32) + nI (4 + j) - 4 = nI (9 + j) by rw [show (9 : Int32) + nI (4 + j) = nI (9 + (4 + j)) from nI_add 9 (4 + j), show nI (9 + (4 + j)) - 4 = nI (9 + (4 + j) - 4) from nI_sub (b := 4) (by omega), show 9 + (4 + j) - 4 = 9 + j by omega], show nI (4 + j) - 4 = nI j by rw [show nI (4 + j) - 4 = nI (4 + j - 4) from nI_sub (b := 4) (by omega), show 4 + j - 4 = j by omega]]
  refine jW2_go rfl rfl (series_sim38 (by omega) hs Hs (fun w' r' I L J L' now nc nr hok => Hb w' r' I L J L' now nc nr hs hok) ok lt) ?_
  intro v S w S' hq
  obtain ⟨I5, L5, J5, L5', x, y, rfl, rfl, rfl, rfl, _⟩ := id hq
  dsimp only [Option.toList_some, Option.toList_none, List.cons_append, List.nil_append]
  rw [B27_170_g38, B272_246, B272_256]
  exact jW2_some hq
theorem factor_sim49 {d e h : Nat} {D D' : Int32} (hD : (24 < D ∧ D' = 24) ∨ (¬ 24 < D ∧ D' ≠ 24)) (hs : ¬ 24 < D → s < 24) (Hf : ∀ (I : Nat → Nat → Int32) (L : Nat → Nat → Int64) (J : Nat → Nat → Int32) (L' : Nat → Nat → Int64) (now nc nr : Nat), pOk 49 T K P W U Q nm kd nb nl nt nu s cw rho now nc nr I L J L' → jW2 (jv (d + 7) 27 0 [some (.ref 27), some (.int (D + 1)), none] [] (shC, I, L, pX pa pb (some 49) pw)) (jv (e + 7) 272 0 [some (.ref 0), some (.int (D' + 1)), none, none, none, none] [] (shR, J, L', pR)) (eQ 49 T K P nl nt lam s rho h true now nc nr I L J L' (pX pa pb (some 49) pw))) (Hc : ∀ (I : Nat → Nat → Int32) (L : Nat → Nat → Int64) (J : Nat → Nat → Int32) (L' : Nat → Nat → Int64) (now nc nr : Nat), pOk 49 T K P W U Q nm kd nb nl nt nu s cw rho now nc nr I L J L' → jW2 (jv (d + 6) 21 0 [some (.ref 27), some (.int (D + 1)), none, none, none, none] [] (shC, I, L, pX pa pb (some 49) pw)) (jv (e + 6) 267 0 [some (.ref 0), some (.int (D' + 1)), none] [] (shR, J, L', pR)) (eQ 49 T K P nl nt lam s rho h false now nc nr I L J L' (pX pa pb (some 49) pw))) (Hs : ∀ (I : Nat → Nat → Int32) (L : Nat → Nat → Int64) (J : Nat → Nat → Int32) (L' : Nat → Nat → Int64) (now nc nr : Nat), pOk 49 T K P W U Q nm kd nb nl nt nu s cw rho now nc nr I L J L' → jW2 (jv (d + 6) 25 0 [some (.ref 27), some (.int (D + 1)), none, none, none, none, none] [] (shC, I, L, pX pa pb (some 49) pw)) (jv (e + 6) 270 0 [some (.ref 0), some (.int (D' + 1)), none, none] [] (shR, J, L', pR)) (eQ 49 T K P nl nt lam s rho h true now nc nr I L J L' (pX pa pb (some 49) pw))) (Hs5 : ∀ (I : Nat → Nat → Int32) (L : Nat → Nat → Int64) (J : Nat → Nat → Int32) (L' : Nat → Nat → Int64) (now nc nr : Nat), pOk 49 T K P W U Q nm kd nb nl nt nu s cw rho now nc nr I L J L' → jW2 (jv (d + 5) 25 0 [some (.ref 27), some (.int (D + 1)), none, none, none, none, none] [] (shC, I, L, pX pa pb (some 49) pw)) (jv (e + 5) 270 0 [some (.ref 0), some (.int (D' + 1)), none, none] [] (shR, J, L', pR)) (eQ 49 T K P nl nt lam s rho h true now nc nr I L J L' (pX pa pb (some 49) pw))) (Hs7 : ∀ (I : Nat → Nat → Int32) (L : Nat → Nat → Int64) (J : Nat → Nat → Int32) (L' : Nat → Nat → Int64) (now nc nr : Nat), pOk 49 T K P W U Q nm kd nb nl nt nu s cw rho now nc nr I L J L' → jW2 (jv (d + 6) 25 0 [some (.ref 27), some (.int (D + 1)), none, none, none, none, none] [] (shC, I, L, pX pa pb (some 49) pw)) (jv (e + 7) 270 0 [some (.ref 0), some (.int (D' + 1)), none, none] [] (shR, J, L', pR)) (eQ 49 T K P nl nt lam s rho h true now nc nr I L J L' (pX pa pb (some 49) pw))) (Hb : ∀ (w' : List Nat) (r' : Nat) (I : Nat → Nat → Int32) (L : Nat → Nat → Int64) (J : Nat → Nat → Int32) (L' : Nat → Nat → Int64) (now nc nr : Nat), s < 24 → pOk 49 T K P W U Q nm kd nb nl nt nu (s + 1) (upW cw s w') (upN rho s r') now nc nr I L J L' → jW2 (jv (d + 6) 25 0 [some (.ref 27), some (.int (D + 1)), none, none, none, none, none] [] (shC, I, L, pX pa pb (some 49) pw)) (jv (e + 6) 270 0 [some (.ref 0), some (.int (D' + 1)), none, none] [] (shR, J, L', pR)) (eQ 49 T K P nl nt lam (s + 1) (upN rho s r') h true now nc nr I L J L' (pX pa pb (some 49) pw))) {I J : Nat → Nat → Int32} {L L' : Nat → Nat → Int64} {now nc nr : Nat} (ok : pOk 49 T K P W U Q nm kd nb nl nt nu s cw rho now nc nr I L J L') : jW2 (jv (d + 8) 27 0 [some (.ref 27), some (.int D), none] [] (shC, I, L, pX pa pb (some 49) pw)) (jv (e + 8) 272 0 [some (.ref 0), some (.int D'), none, none, none, none] [] (shR, J, L', pR)) (eQ 49 T K P nl nt lam s rho (h + 1) true now nc nr I L J L' (pX pa pb (some 49) pw)) := by
  have hg : 49 = 38 ∨ 49 = 49 := by decide
  obtain ⟨tk, kw, hN, hC, a5, a6, a7, a8, a9, a10, a11, a12, a13⟩ := id ok
  have hT := ok.1.1
  have tq := tk.2.2.2.1 now a5
  rw [B27_0_g49, B272_0, if_pos a9, a10, a11, if_pos (j_in_nI (by omega) (by decide)), nI_clamp (by omega), tq.2.2.2.1]
  rcases hD with ⟨dc, dr⟩ | ⟨dc, dr⟩
  · rw [if_pos dc, if_pos dr, show (5 : Int32) = nI 5 from rfl, jgo_some (d := d + 7) rfl (fail_c tk a5 a8 5), jgo_some (d := e + 7) rfl (fails_rk a9 5 (P now))]
    dsimp only [Option.toList_some, Option.toList_none, List.cons_append, List.nil_append]
    rw [B27_15_g49, B272_31]
    exact jW2_some (eQ.f (eSt.fl hg ok.st (by decide) (by omega)) _ _)
  have hs := hs dc
  have i45 := is_r (e := e + 7) tk a5 a11 (k := 45) (by decide)
  rw [show nI (kR 45) = (45 : Int32) from rfl] at i45
  rw [if_neg dc, if_neg dr, jgo_some (d := e + 7) rfl i45, show (45 : Int32) = nI 45 from rfl, jgo_some (d := d + 7) rfl (now_c tk a5 a8 a10 (k := 45) (by decide))]
  dsimp only [Option.toList_some, Option.toList_none, List.cons_append, List.nil_append]
  rw [B27_22_g49, B272_40]
  by_cases q1 : K now = 45
  · have lt : now < T := tk.lt a5 q1 (by decide)
    have st1 := eSt.adv hg ok.st lt
    have ok1 : pOk 49 T K P W U Q nm kd nb nl nt nu s cw rho (now + 1) nc nr (j_up I 27 7 (nI (now + 1))) L (j_up J 0 28 (nI (now + 1))) L' := eSt.ok hg ok st1 (by rw [j_up_own, if_neg (by decide)]; exact a9)
    rw [if_pos q1, if_neg (by decide), if_neg (by decide), a10, a11, show nI now + 1 = nI (now + 1) from nI_add now 1]
    refine jW2_go rfl rfl (Hf _ _ _ _ _ _ _ ok1) ?_
    intro v S w S' hq
    obtain ⟨I2, L2, J2, L2', x, y, rfl, rfl, rfl, rfl, hh⟩ := id hq
    dsimp only [Option.toList_some, Option.toList_none, List.cons_append, List.nil_append]
    rw [B27_49_g49, B272_63]
    exact unary49 (d := d + 7) (e := e + 7) (b := true) (b2 := true) ok lt 6 11 x y hq (fun C R V w n k n1 k1 c0 c1 r0 r1 z => Or.inl ⟨rfl, Or.inr (Or.inr (Or.inr (Or.inr (Or.inr (Or.inr (Or.inl ⟨c0, r0, n1, k1, c1, r1, z⟩))))))⟩) _ _ _ (fun x' S y' S' hz => by
      obtain ⟨I3, L3, J3, L3', x3, y3, e1, e2, rfl, rfl, _⟩ := id hz
      dsimp only [Option.toList_some, Option.toList_none, List.cons_append, List.nil_append]
      rw [B27_54_g49, B272_69]
      exact jW2_some hz)
  have i48 := is_r (e := e + 7) tk a5 a11 (k := 48) (by decide)
  rw [show nI (kR 48) = (2 : Int32) from rfl] at i48
  rw [if_neg q1, if_pos rfl, if_pos rfl, jgo_some (d := e + 7) rfl i48, show (48 : Int32) = nI 48 from rfl, jgo_some (d := d + 7) rfl (now_c tk a5 a8 a10 (k := 48) (by decide))]
  dsimp only [Option.toList_some, Option.toList_none, List.cons_append, List.nil_append]
  rw [B27_61_g49, B272_75]
  by_cases q2 : K now = 48
  · have lt : now < T := tk.lt a5 q2 (by decide)
    have st1 := eSt.adv hg ok.st lt
    obtain ⟨u1, u2, u3⟩ := tk.2.2.2.2.2.2 now lt q2
    rw [if_pos q2, if_neg (show ¬ (1 : Int32) = 0 by decide), if_neg (show ¬ (1 : Int32) = 0 by decide), a10, a11, show nI now + 1 = nI (now + 1) from nI_add now 1, j_up_own, if_pos rfl, j_up_own, if_pos rfl, nI_prd, if_pos (j_in_nI (by omega) (by decide)), if_pos (j_in_nI (by omega) (by decide)), nI_clamp (by omega), u2, u3, lgN_i (show U now < 2 ^ 31 by omega)]
    rw [jgo_some (d := d + 7) rfl (add_c49 (d := d + 7) (I := j_up I 27 7 (nI (now + 1))) (L := L) (pa := pa) (pb := pb) (pu := some 49) (pw := pw) (by rw [j_up_cell _ (by decide)]; exact a12) (show nc < 1201 by omega) 0 (nI (U now)) (-1) (-1) (-1)), jgo_some (d := e + 7) rfl (node_r (e := e + 7) (J := j_up J 0 28 (nI (now + 1))) (L' := L') (by rw [j_up_own, if_neg (by decide)]; exact a13) (show nr < 1400 by omega) 1 0 0 0 (lgN (U now)))]
    dsimp only [Option.toList_some, Option.toList_none, List.cons_append, List.nil_append]
    rw [B27_97_g49, B272_107]
    have st2 := eSt.add hg st1 (by omega) (by omega) 0 (nI (U now)) (-1) (-1) (-1) 1 0 0 0 (lgN (U now))
    refine jW2_some (eQ.ok (now' := now + 1) (nc' := nc + 1) (nr' := nr + 1) (by omega) st2 ?_ ?_)
    · rw [(adR_at (J := j_up J 0 28 (nI (now + 1))) nr 1 0 0 0).2.2.2.2.2.2.1 29 (by decide), j_up_own, if_neg (by decide)]; exact a9
    · exact pst.one (by omega) (by omega) (by omega) _ _ _ _ _ _ _ _ _ _ (fun C R V c0 c1 c2 c3 c4 r0 r1 r2 r3 v0 => Or.inl ⟨c0, r0, U now, u1, c4, v0⟩)
  have i40 := is_r (e := e + 7) tk a5 a11 (k := 40) (by decide)
  rw [show nI (kR 40) = (40 : Int32) from rfl] at i40
  rw [if_neg q2, if_pos rfl, if_pos rfl, jgo_some (d := e + 7) rfl i40, show (40 : Int32) = nI 40 from rfl, jgo_some (d := d + 7) rfl (now_c tk a5 a8 a10 (k := 40) (by decide))]
  dsimp only [Option.toList_some, Option.toList_none, List.cons_append, List.nil_append]
  rw [B27_104_g49, B272_114]
  by_cases q3 : K now = 40
  · have lt : now < T := tk.lt a5 q3 (by decide)
    have st1 := eSt.adv hg ok.st lt
    have ok1 : pOk 49 T K P W U Q nm kd nb nl nt nu s cw rho (now + 1) nc nr (j_up I 27 7 (nI (now + 1))) L (j_up J 0 28 (nI (now + 1))) L' := eSt.ok hg ok st1 (by rw [j_up_own, if_neg (by decide)]; exact a9)
    rw [if_pos q3, if_neg (by decide), if_neg (by decide), a11, show nI now + 1 = nI (now + 1) from nI_add now 1]
    -- the first reader goes through its method of brackets
    have key : jW2 (jv (d + 7) 28 0 [some (.ref 27), some (.int D), none] [] (shC, I, L, pX pa pb (some 49) pw)) (jgo jTT jMM (e + 8) 270 [.ref 0, .int (D' + 1)] (shR, j_up J 0 28 (nI (now + 1)), L', pR) (fun v S => jv (e + 8) 272 134 [some (.ref 0), some (.int D'), some (.int (nI (P now))), none, none, none] (v.toList ++ []) S)) (eQ 49 T K P nl nt lam s rho (h + 1) true now nc nr I L J L' (pX pa pb (some 49) pw)) := by
      rw [B28_0, show (40 : Int32) = nI 40 from rfl, jgo_some (d := d + 6) rfl (expect_c1 (d := d + 5) tk a5 a8 a10 (by decide) q3)]
      dsimp only [Option.toList_some, Option.toList_none, List.cons_append, List.nil_append]
      rw [B28_6]
      refine jW2_go rfl rfl (Hs7 _ _ _ _ _ _ _ ok1) ?_
      intro v S w S' hq
      obtain ⟨I5, L5, J5, L5', x, y, rfl, rfl, rfl, rfl, vc5, vr5, I6, J6, ec5, er5, hw5⟩ := eQ.w (d := d + 5) (e := e + 6) hg ok st1 hq (k := 41) (by decide) (by decide) (by decide)
      dsimp only [Option.toList_some, Option.toList_none, List.cons_append, List.nil_append]
      rw [B28_14, B272_134, show (41 : Int32) = nI 41 from rfl, jgo_some (d := d + 6) rfl ec5, show nI 41 = nI (kR 41) from rfl, jgo_some (d := e + 7) rfl er5]
      dsimp only [Option.toList_some, Option.toList_none, List.cons_append, List.nil_append]
      rw [B28_21, B272_141]
      rcases hw5 with ⟨now5, nc5, nr5, n1, k1, rfl, rfl, lt5, gc5, gr5, hc5, hr5, st5, fc5, fr5, h295, p5, v5⟩ | ⟨m1, c1, m2, r2, v0, hf⟩
      · exact jW2_some (eQ.ok (by omega) st5 h295 (p5.eqs (by omega) (by omega) (fun _ _ => rfl) (fun _ _ => rfl) rfl))
      · exact jW2_some (eQ.f hf _ _)
    refine jW2_goL rfl key ?_
    rintro v S w S' hq
    obtain ⟨I5, L5, J5, L5', x, y, rfl, rfl, rfl, rfl, _⟩ := id hq
    dsimp only [Option.toList_some, Option.toList_none, List.cons_append, List.nil_append]
    rw [B27_112_g49]
    exact ⟨_, _, rfl, hq⟩
  have i97 := is_r (e := e + 7) tk a5 a11 (k := 97) (by decide)
  rw [show nI (kR 97) = (1 : Int32) from rfl] at i97
  rw [if_neg q3, if_pos rfl, if_pos rfl, jgo_some (d := e + 7) rfl i97, show (97 : Int32) = nI 97 from rfl, jgo_some (d := d + 7) rfl (now_c tk a5 a8 a10 (k := 97) (by decide))]
  dsimp only [Option.toList_some, Option.toList_none, List.cons_append, List.nil_append]
  rw [B27_119_g49, B272_149]
  by_cases q4 : K now = 97
  case neg =>
    rw [if_neg q4, if_pos rfl, if_pos rfl, a10, show (2 : Int32) = nI 2 from rfl, jgo_some (d := d + 7) rfl (fail_c tk a5 a8 2), jgo_some (d := e + 7) rfl (fails_rk a9 2 (P now))]
    dsimp only [Option.toList_some, Option.toList_none, List.cons_append, List.nil_append]
    rw [B27_131_g49, B272_158]
    exact jW2_some (eQ.f (eSt.fl hg ok.st (by decide) (by omega)) _ _)
  have lt : now < T := tk.lt a5 q4 (by decide)
  obtain ⟨u1, u2, u3⟩ := tk.2.2.2.2.2.1 now lt q4
  obtain ⟨r, e1, f1⟩ := key_c (d := d + 6) (pa := pa) (pb := pb) (pu := some 49) (pw := pw) kw tk a5 a10 q4
  obtain ⟨r', e2, f2⟩ := among_2008 (e := e + 7) (J := J) (L' := L') u1 none none none none
  have hr : r' = r := f2.uniq f1 (fun _ _ => Iff.rfl)
  rw [hr] at e2
  rw [if_pos q4, if_neg (by decide), if_neg (by decide), a11, if_pos (j_in_nI (by omega) (by decide)), nI_clamp (by omega), u3, jgo_some (d := d + 7) rfl e1, jgo_some (d := e + 7) rfl e2]
  dsimp only [Option.toList_some, Option.toList_none, List.cons_append, List.nil_append]
  rw [B27_136_g49, B272_178]
  have bad : jW2 (jgo jTT jMM (d + 8) 7 [.ref 27, .int 2, .int (I 27 7)] (shC, I, L, pX pa pb (some 49) pw) (fun v S => jv (d + 8) 27 184 [some (.ref 27), some (.int D), some (.int r)] (v.toList ++ []) S)) (jv (e + 8) 272 198 [some (.ref 0), some (.int D'), some (.int (nI (P now))), some (.long (lgN (nR (W now)))), none, some (.int r)] [] (shR, J, L', pR)) (eQ 49 T K P nl nt lam s rho (h + 1) true now nc nr I L J L' (pX pa pb (some 49) pw)) := by
    rw [B272_198, a10, show (2 : Int32) = nI 2 from rfl, jgo_some (d := d + 7) rfl (fail_c tk a5 a8 2), jgo_some (d := e + 7) rfl (fails_rk a9 2 (P now))]
    dsimp only [Option.toList_some, Option.toList_none, List.cons_append, List.nil_append]
    rw [B27_184_g49, B27_192_g49, B272_204]
    exact jW2_some (eQ.f (eSt.fl hg ok.st (by decide) (by omega)) _ _)
  rcases f1 with ⟨i, i1, i2, i3, rfl⟩ | ⟨i1, rfl⟩
  case inr =>
    rw [if_neg (by decide), if_pos (by decide), B27_171_g49, if_pos (by decide), if_pos (by decide), B272_207, if_neg (by decide), if_neg (by decide), a11, show nI now + 1 = nI (now + 1) from nI_add now 1]
    refine jW2_go rfl rfl (mean_sim49 Hs5 ok q4) ?_
    intro v S w S' hq
    obtain ⟨I5, L5, J5, L5', x, y, rfl, rfl, rfl, rfl, _⟩ := id hq
    dsimp only [Option.toList_some, Option.toList_none, List.cons_append, List.nil_append]
    rw [B27_192_g49, B272_256]
    exact jW2_some hq
  have n0 : ¬ nI i < 0 := nI_pos (by omega)
  rw [if_neg n0]
  by_cases c3 : i = 3
  · subst c3
    rw [if_pos (show nI 3 = (3 : Int32) from rfl), if_neg (show ¬ nI 3 < (3 : Int32) by decide), if_neg (show ¬ (6 : Int32) < nI 3 by decide), B272_207, if_pos (show nI 3 = (3 : Int32) from rfl), a11, show nI now + 1 = nI (now + 1) from nI_add now 1]
    refine jW2_go rfl rfl (choice_sim49 Hc Hs ok lt) ?_
    intro v S w S' hq
    obtain ⟨I5, L5, J5, L5', x, y, rfl, rfl, rfl, rfl, _⟩ := id hq
    dsimp only [Option.toList_some, Option.toList_none, List.cons_append, List.nil_append]
    rw [B27_147_g49, B272_228, B272_256]
    exact jW2_some hq
  have n3 : ¬ nI i = 3 := fun z => c3 ((nI_eq (b := 3) (by omega) (by decide)).mp z)
  rw [if_neg n3]
  by_cases c4 : i < 4
  · rw [if_pos (show nI i < (4 : Int32) from nI_lt (b := 4) c4 (by decide)), if_pos (show nI i < (3 : Int32) from nI_lt (b := 3) (by omega) (by decide)), B27_171_g49, if_neg n0]
    exact bad
  rw [if_neg (show ¬ nI i < (4 : Int32) from nI_nlt (b := 4) (by omega) (by omega)), if_neg (show ¬ nI i < (3 : Int32) from nI_nlt (b := 3) (by omega) (by omega))]
  by_cases c6 : 6 < i
  · rw [if_pos (show (6 : Int32) < nI i from nI_lt (a := 6) c6 (by omega)), if_pos (show (6 : Int32) < nI i from nI_lt (a := 6) c6 (by omega)), B27_171_g49, if_neg n0]
    exact bad
  have n6 : ¬ (6 : Int32) < nI i := nI_nlt (a := 6) (by omega) (by omega)
  rw [if_neg n6, if_neg n6, B272_207, if_neg n3, if_pos (show (3 : Int32) < nI i from nI_lt (a := 3) (by omega) (by omega)), a11, show nI now + 1 = nI (now + 1) from nI_add now 1]
  obtain ⟨j, rfl⟩ : ∃ j, i = 4 + j := ⟨i - 4, by omega⟩
  rw [show (9 : Int32) + nI (4 + j) - 4 = nI (9 + j) by rw [show (9 : Int32) + nI (4 + j) = nI (9 + (4 + j)) from nI_add 9 (4 + j), show nI (9 + (4 + j)) - 4 = nI (9 + (4 + j) - 4) from nI_sub (b := 4) (by omega), show 9 + (4 + j) - 4 = 9 + j by omega], show nI (4 + j) - 4 = nI j by rw [show nI (4 + j) - 4 = nI (4 + j - 4) from nI_sub (b := 4) (by omega), show 4 + j - 4 = j by omega]]
  refine jW2_go rfl rfl (series_sim49 (by omega) hs Hs (fun w' r' I L J L' now nc nr hok => Hb w' r' I L J L' now nc nr hs hok) ok lt) ?_
  intro v S w S' hq
  obtain ⟨I5, L5, J5, L5', x, y, rfl, rfl, rfl, rfl, _⟩ := id hq
  dsimp only [Option.toList_some, Option.toList_none, List.cons_append, List.nil_append]
  rw [B27_170_g49, B272_246, B272_256]
  exact jW2_some hq
end PARQ
