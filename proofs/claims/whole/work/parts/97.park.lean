/-! RULES: brackets, and what a word means, in both -/
section PARK
variable {T : Nat} {K P : Nat → Nat} {W : Nat → List Nat} {U : Nat → Nat} {Q : Nat} {nm : Nat → List Nat} {kd nb : Nat → Nat} {nl nt nu s : Nat} {cw : Nat → List Nat} {rho : Nat → Nat} {lam : Nat} {pa pb pw : Option Nat}
theorem pst.eqs {g : Nat} {I J I2 J2 : Nat → Nat → Int32} {L' L2 : Nat → Nat → Int64} {nl nt lam h h2 : Nat} {b : Bool} {w w2 s : Nat} {rho : Nat → Nat} {nc nc' nr nr' n k : Nat} (z : pst g I J L' nl nt lam h b w s rho nc nc' nr nr' n k) (h1 : h ≤ h2) (h3 : w ≤ w2) (f1 : ∀ c, c < 5 → I2 (g + 1 + c) = I (g + 1 + c)) (f2 : ∀ c, c < 4 → J2 (21 + c) = J (21 + c)) (f3 : L2 25 = L' 25) : pst g I2 J2 L2 nl nt lam h2 b w2 s rho nc nc' nr nr' n k := z.frame h1 h3 (Nat.le_refl _) (Nat.le_refl _) (Nat.le_refl _) (Nat.le_refl _) (fun c hc i _ _ => by rw [f1 c hc]) (fun c hc i _ _ => by rw [f2 c hc]) (fun i _ _ => by rw [f3])
/-- one node just added -/
theorem pst.one {g : Nat} {I J : Nat → Nat → Int32} {L' : Nat → Nat → Int64} {nl nt lam h w s nc nr : Nat} {rho : Nat → Nat} (hc : nc < 1201) (hr : nr < 1400) (hw : 0 < w) (a b x y z a' x' y' z' : Int32) (v : Int64) (hx : ∀ (C R : Nat → Nat → Int32) (V : Nat → Int64), C 0 nc = a → C 1 nc = x → C 2 nc = y → C 3 nc = z → C 4 nc = b → R 0 nr = a' → R 1 nr = x' → R 2 nr = y' → R 3 nr = z' → V nr = v → relN C R V nl nt lam (fun b' w2 s' r' n' k' => rel C R V nl nt lam h b' w2 s' r' n' k') (w - 1) s rho nc nr) : pst g (adC g I nc a b x y z) (adR J nr a' x' y' z') (j_up L' 25 nr v) nl nt lam (h + 1) true w s rho nc (nc + 1) nr (nr + 1) nc nr := by
  obtain ⟨_, d1, d2, d3, d4, d5, _⟩ := adC_at (I := I) g nc a b x y z
  obtain ⟨_, g1, g2, g3, g4, _⟩ := adR_at (J := J) nr a' x' y' z'
  intro C R V a1 a2 a3
  refine ⟨hc, hr, Or.inr ⟨w - 1, by omega, Or.inl ⟨rfl, hx C R V ?_ ?_ ?_ ?_ ?_ ?_ ?_ ?_ ?_ ?_⟩⟩⟩
  · exact (a1 0 (by decide) nc (Nat.le_refl _) (by omega)).trans d1
  · exact (a1 1 (by decide) nc (Nat.le_refl _) (by omega)).trans d3
  · exact (a1 2 (by decide) nc (Nat.le_refl _) (by omega)).trans d4
  · exact (a1 3 (by decide) nc (Nat.le_refl _) (by omega)).trans d5
  · exact (a1 4 (by decide) nc (Nat.le_refl _) (by omega)).trans d2
  · exact (a2 0 (by decide) nr (Nat.le_refl _) (by omega)).trans g1
  · exact (a2 1 (by decide) nr (Nat.le_refl _) (by omega)).trans g2
  · exact (a2 2 (by decide) nr (Nat.le_refl _) (by omega)).trans g3
  · exact (a2 3 (by decide) nr (Nat.le_refl _) (by omega)).trans g4
  · rw [a3 nr (Nat.le_refl _) (by omega), j_up_own, if_pos rfl]
/-- one node above a part just read -/
theorem pst.up {g : Nat} {b b2 : Bool} {I J : Nat → Nat → Int32} {L' : Nat → Nat → Int64} {nl nt lam h w w2 s nc nc' nr nr' n1 k1 : Nat} {rho : Nat → Nat} (z0 : pst g I J L' nl nt lam h b w s rho nc nc' nr nr' n1 k1) (hc : nc' < 1201) (hr : nr' < 1400) (hw : w < w2) (n0 : nc ≤ nc') (r0 : nr ≤ nr') (a v x y z a' x' y' z' : Int32) (v0 : Int64) (hx : ∀ (C R : Nat → Nat → Int32) (V : Nat → Int64), C 0 nc' = a → C 1 nc' = x → C 2 nc' = y → C 3 nc' = z → C 4 nc' = v → R 0 nr' = a' → R 1 nr' = x' → R 2 nr' = y' → R 3 nr' = z' → V nr' = v0 → rel C R V nl nt lam h b w s rho n1 k1 → (b2 = true ∧ relN C R V nl nt lam (fun b' w2 s' r' n' k' => rel C R V nl nt lam h b' w2 s' r' n' k') w s rho nc' nr') ∨ (b2 = false ∧ relB C R (fun b' w2 s' r' n' k' => rel C R V nl nt lam h b' w2 s' r' n' k') w s rho nc' nr')) : pst g (adC g I nc' a v x y z) (adR J nr' a' x' y' z') (j_up L' 25 nr' v0) nl nt lam (h + 1) b2 w2 s rho nc (nc' + 1) nr (nr' + 1) nc' nr' := by
  obtain ⟨c1, d1, d2, d3, d4, d5, _⟩ := adC_at (I := I) g nc' a v x y z
  obtain ⟨e1, g1, g2, g3, g4, _⟩ := adR_at (J := J) nr' a' x' y' z'
  intro C R V a1 a2 a3
  refine ⟨hc, hr, Or.inr ⟨w, by omega, hx C R V ?_ ?_ ?_ ?_ ?_ ?_ ?_ ?_ ?_ ?_ (z0 C R V (fun c hc' i i1 i2 => ?_) (fun c hc' i i1 i2 => ?_) (fun i i1 i2 => ?_))⟩⟩
  · exact (a1 0 (by decide) nc' n0 (by omega)).trans d1
  · exact (a1 1 (by decide) nc' n0 (by omega)).trans d3
  · exact (a1 2 (by decide) nc' n0 (by omega)).trans d4
  · exact (a1 3 (by decide) nc' n0 (by omega)).trans d5
  · exact (a1 4 (by decide) nc' n0 (by omega)).trans d2
  · exact (a2 0 (by decide) nr' r0 (by omega)).trans g1
  · exact (a2 1 (by decide) nr' r0 (by omega)).trans g2
  · exact (a2 2 (by decide) nr' r0 (by omega)).trans g3
  · exact (a2 3 (by decide) nr' r0 (by omega)).trans g4
  · rw [a3 nr' r0 (by omega), j_up_own, if_pos rfl]
  · rw [a1 c hc' i i1 (by omega), c1 i (by omega) c hc']
  · rw [a2 c hc' i i1 (by omega), e1 i (by omega) c hc']
  · rw [a3 i i1 (by omega), j_up_own, if_neg (by omega)]

theorem brack_sim38 {d e h : Nat} {D D' : Int32} (H : ∀ (I : Nat → Nat → Int32) (L : Nat → Nat → Int64) (J : Nat → Nat → Int32) (L' : Nat → Nat → Int64) (now nc nr : Nat), pOk 38 T K P W U Q nm kd nb nl nt nu s cw rho now nc nr I L J L' → jW2 (jv (d + 5) 25 0 [some (.ref 27), some (.int (D + 1)), none, none, none, none, none] [] (shC, I, L, pX pa pb (some 38) pw)) (jv (e + 5) 270 0 [some (.ref 0), some (.int (D' + 1)), none, none] [] (shR, J, L', pR)) (eQ 38 T K P nl nt lam s rho h true now nc nr I L J L' (pX pa pb (some 38) pw))) {I J : Nat → Nat → Int32} {L L' : Nat → Nat → Int64} {now nc nr : Nat} (ok : pOk 38 T K P W U Q nm kd nb nl nt nu s cw rho now nc nr I L J L') : jW2 (jv (d + 6) 28 0 [some (.ref 27), some (.int D), none] [] (shC, I, L, pX pa pb (some 38) pw)) (jv (e + 6) 277 0 [some (.ref 0), some (.int D'), none] [] (shR, J, L', pR)) (eQ 38 T K P nl nt lam s rho h true now nc nr I L J L' (pX pa pb (some 38) pw)) := by
  have hg : 38 = 38 ∨ 38 = 49 := by decide
  have hT := ok.1.1
  have hnc := ok.2.2.2.2.2.1
  have hnT := ok.2.2.2.2.1
  rw [B28_0, B277_0]
  rcases want_ok hg ok.1 ok.st ok.2.2.2.2.2.2.2.2.1 (show nc ≤ 1201 by omega) (k := 40) (by decide) (by decide) (d + 4) (e + 4) pa pb (some 38) pw with ⟨q, ec, er, lt, st1, h29⟩ | ⟨q, I2, J2, n1, c1, n2, r2, ec, er, hf⟩
  · rw [show (40 : Int32) = nI 40 from rfl, jgo_some (d := d + 5) rfl ec, show nI 40 = nI (kR 40) from rfl, jgo_some (d := e + 5) rfl er]
    dsimp only [Option.toList_some, Option.toList_none, List.cons_append, List.nil_append]
    rw [B28_6, B277_6]
    refine jW2_go rfl rfl (H _ _ _ _ _ _ _ (eSt.ok hg ok st1 h29)) ?_
    rintro v S w S' ⟨I2, L2, J2, L2', x, y, rfl, rfl, rfl, rfl, hh⟩
    dsimp only [Option.toList_some, Option.toList_none, List.cons_append, List.nil_append]
    rw [B28_14, B277_14, show (41 : Int32) = nI 41 from rfl]
    rcases hh with ⟨now2, nc2, nr2, n2, k2, lt2, st2, rfl, rfl, hh⟩ | ⟨now1, nc1, now2, nr2, hf⟩
    · have st3 := eSt.trans st1 st2
      have b3 := st3.2.2.2.2.2.2.1
      have b4 := st3.2.2.2.1
      rcases hh with ⟨h29', hp2⟩ | ⟨h40, h29', h30'⟩
      · rcases want_ok hg ok.1 st3 h29' (show nc2 ≤ 1201 by omega) (k := 41) (by decide) (by decide) (d + 4) (e + 4) pa pb (some 38) pw with ⟨q2, ec2, er2, lt3, st4, h294⟩ | ⟨q2, I3, J3, n1, c1, n3, r3, ec2, er2, hf⟩
        · rw [jgo_some (d := d + 5) rfl ec2, show nI 41 = nI (kR 41) from rfl, jgo_some (d := e + 5) rfl er2]
          dsimp only [Option.toList_some, Option.toList_none, List.cons_append, List.nil_append]
          rw [B28_21, B277_21]
          exact jW2_some (eQ.ok (by omega) st4 h294 (hp2.eqs (Nat.le_refl _) (by omega) (fun c _ => j_up_cell _ (by omega) _ _) (fun c _ => j_up_cell _ (by omega) _ _) rfl))
        · rw [jgo_some (d := d + 5) rfl ec2, show nI 41 = nI (kR 41) from rfl, jgo_some (d := e + 5) rfl er2]
          dsimp only [Option.toList_some, Option.toList_none, List.cons_append, List.nil_append]
          rw [B28_21, B277_21]
          exact jW2_some (eQ.f hf _ _)
      · obtain ⟨I3, n1, c1, n3, r3, ec2, er2, hf⟩ := want_bad hg ok.1 (Or.inl ⟨now2, nc2, nr2, st3, by omega, h40, h29', h30'⟩) (k := 41) (by decide) (by decide) (d + 4) (e + 4) pa pb (some 38) pw
        rw [jgo_some (d := d + 5) rfl ec2, show nI 41 = nI (kR 41) from rfl, jgo_some (d := e + 5) rfl er2]
        dsimp only [Option.toList_some, Option.toList_none, List.cons_append, List.nil_append]
        rw [B28_21, B277_21]
        exact jW2_some (eQ.f hf _ _)
    · have hf1 := eF.pre st1 hf
      rw [jgo_some (d := d + 5) rfl (expect_cf (d := d + 4) hf1.f.1 _), jgo_some (d := e + 5) rfl (want_rf hf1.f.2 _)]
      dsimp only [Option.toList_some, Option.toList_none, List.cons_append, List.nil_append]
      rw [B28_21, B277_21]
      exact jW2_some (eQ.f hf1 _ _)
  · rw [show (40 : Int32) = nI 40 from rfl, jgo_some (d := d + 5) rfl ec, show nI 40 = nI (kR 40) from rfl, jgo_some (d := e + 5) rfl er]
    dsimp only [Option.toList_some, Option.toList_none, List.cons_append, List.nil_append]
    rw [B28_6, B277_6, jgo_some (d := d + 5) rfl (sum_cf38 (d := d + 2) hf.f.1 _ _ _ _ _ _), jgo_some (d := e + 5) rfl (sum_rf (e := e + 3) hf.f.2 _ _ _)]
    dsimp only [Option.toList_some, Option.toList_none, List.cons_append, List.nil_append]
    rw [B28_14, B277_14, jgo_some (d := d + 5) rfl (expect_cf (d := d + 4) hf.f.1 _), jgo_some (d := e + 5) rfl (want_rf hf.f.2 _)]
    dsimp only [Option.toList_some, Option.toList_none, List.cons_append, List.nil_append]
    rw [B28_21, B277_21]
    exact jW2_some (eQ.f hf _ _)
theorem alone_r {e : Nat} {J : Nat → Nat → Int32} {L' : Nat → Nat → Int64} {I : Nat → Nat → Int32} {L : Nat → Nat → Int64} {now : Nat} (tk : tkS T K P W U I L J L') (hn : now ≤ T) (h29 : J 0 29 = 0) (h28 : J 0 28 = nI now) (x : Int32) : jv (e + 1) 276 0 [some (.ref 0), some (.int x)] [] (shR, J, L', pR) = some (some (.int x), (shR, if K now = 40 then flR J 2 (P now) else J, L', pR)) := by
  have hT := tk.1
  have kq := tk.2.2.2.1 now hn
  have i1 := is_r (e := e) tk hn h28 (k := 40) (by decide)
  rw [B276_0, show (40 : Int32) = nI (kR 40) from rfl, jgo_some (d := e) rfl i1]
  dsimp only [Option.toList_some, Option.toList_none, List.cons_append, List.nil_append]
  rw [B276_6]
  by_cases q : K now = 40
  · rw [if_pos q, if_neg (by decide), h28, if_pos (j_in_nI (by omega) (by decide)), nI_clamp (by omega), kq.2.2.2.1, show (2 : Int32) = nI 2 from rfl, jgo_some (d := e) rfl (fails_rk h29 2 (P now))]
    dsimp only [Option.toList_some, Option.toList_none, List.cons_append, List.nil_append]
    rw [B276_23, B276_24, if_pos q]
  · rw [if_neg q, if_pos rfl, B276_24, if_neg q]
/-- a word that stands alone: one node in both -/
theorem alone_sim38 {e h : Nat} {I J : Nat → Nat → Int32} {L L' : Nat → Nat → Int64} {now nc nr : Nat} (ok : pOk 38 T K P W U Q nm kd nb nl nt nu s cw rho now nc nr I L J L') (hlt : now < T) (a v a' x' : Int32) (hx : ∀ (C R : Nat → Nat → Int32) (V : Nat → Int64), C 0 nc = a → C 4 nc = v → R 0 nr = a' → R 1 nr = x' → relN C R V nl nt lam (fun b' w2 s' r' n' k' => rel C R V nl nt lam h b' w2 s' r' n' k') lam s rho nc nr) : ∃ J3, jv (e + 1) 276 0 [some (.ref 0), some (.int (nI nr))] [] (shR, adR (j_up J 0 28 (nI (now + 1))) nr a' x' 0 0, j_up L' 25 nr 0, pR) = some (some (.int (nI nr)), (shR, J3, j_up L' 25 nr 0, pR)) ∧ eQ 38 T K P nl nt lam s rho (h + 1) true now nc nr I L J L' (pX pa pb (some 38) pw) (some (.int (nI nc))) (shC, adC 38 (j_up I 27 7 (nI (now + 1))) nc a v (-1) (-1) (-1), L, pX pa pb (some 38) pw) (some (.int (nI nr))) (shR, J3, j_up L' 25 nr 0, pR) := by
  have hg : 38 = 38 ∨ 38 = 49 := by decide
  have hT := ok.1.1
  have hnc := ok.2.2.2.2.2.1
  have hnr := ok.2.2.2.2.2.2.1
  have st1 := eSt.adv hg ok.st hlt
  have st2 := eSt.add hg st1 (by omega) (by omega) a v (-1) (-1) (-1) a' x' 0 0 0
  have tk := eSt.tk hg st2 ok.1
  obtain ⟨e1, g1, g2, g3, g4, e2, e3, e4⟩ := adR_at (J := j_up J 0 28 (nI (now + 1))) nr a' x' 0 0
  have h29 : adR (j_up J 0 28 (nI (now + 1))) nr a' x' 0 0 0 29 = 0 := by rw [e3 29 (by decide), j_up_own, if_neg (by decide)]; exact ok.2.2.2.2.2.2.2.2.1
  have al := alone_r (e := e) tk st2.2.2.2.1 h29 st2.2.2.2.2.2.2.2.2.2.2.2.2.2.1 (nI nr)
  refine ⟨_, al, ?_⟩
  by_cases q : K (now + 1) = 40
  · rw [if_pos q]
    refine eQ.pd (now' := now + 1) (nc' := nc + 1) (nr' := nr + 1) (by omega) ?_ q ?_ ?_
    · obtain ⟨b1, b2, b3, b4, b5, b6, b7, b8, b9, b10, b11, b12, b13, b14, b15⟩ := st2
      refine ⟨b1, flR_fr b2 2 _, b3, b4, b5, b6, b7, b8, b9, b10, b11, b12, ?_, ?_, ?_⟩
      · unfold flR; rw [j_up_own, if_neg (by decide), j_up_own, if_neg (by decide)]; exact b13
      · unfold flR; rw [j_up_own, if_neg (by decide), j_up_own, if_neg (by decide)]; exact b14
      · unfold flR; rw [j_up_own, if_neg (by decide), j_up_own, if_neg (by decide)]; exact b15
    · unfold flR; rw [j_up_own, if_neg (by decide), j_up_own, if_pos rfl]; rfl
    · unfold flR; rw [j_up_own, if_pos rfl]
  · rw [if_neg q]
    refine eQ.ok (now' := now + 1) (nc' := nc + 1) (nr' := nr + 1) (by omega) st2 h29 ?_
    refine pst.one (by omega) (by omega) (by omega) a v (-1) (-1) (-1) a' x' 0 0 0 (fun C R V c0 c1 c2 c3 c4 r0 r1 r2 r3 v0 => ?_)
    rw [show lam + (now + 1 - now) - 1 = lam by omega]
    exact hx C R V c0 c4 r0 r1
/-- a word with brackets: the node above the part in them -/
theorem ofB38 {d e h : Nat} {I J : Nat → Nat → Int32} {L L' : Nat → Nat → Int64} {now nc nr : Nat} (ok : pOk 38 T K P W U Q nm kd nb nl nt nu s cw rho now nc nr I L J L') (hlt : now < T) (a v a' x' x y : Int32) {I1 J1 : Nat → Nat → Int32} {L1 L1' : Nat → Nat → Int64} (hq : eQ 38 T K P nl nt lam s rho h true (now + 1) nc nr (j_up I 27 7 (nI (now + 1))) L (j_up J 0 28 (nI (now + 1))) L' (pX pa pb (some 38) pw) (some (.int x)) (shC, I1, L1, pX pa pb (some 38) pw) (some (.int y)) (shR, J1, L1', pR)) (hx : ∀ (C R : Nat → Nat → Int32) (V : Nat → Int64) (w n k n1 k1 : Nat), C 0 n = a → C 1 n = nI n1 → C 4 n = v → R 0 k = a' → R 1 k = x' → R 2 k = nI k1 → rel C R V nl nt lam h true w s rho n1 k1 → relN C R V nl nt lam (fun b' w2 s' r' n' k' => rel C R V nl nt lam h b' w2 s' r' n' k') w s rho n k) (Q' : Option Value → jS → Option Value → jS → Prop) (KC KR : Option Value → jS → jO) (hK : ∀ x' S y' S', eQ 38 T K P nl nt lam s rho (h + 1) true now nc nr I L J L' (pX pa pb (some 38) pw) (some (.int x')) S (some (.int y')) S' → jW2 (KC (some (.int x')) S) (KR (some (.int y')) S') Q') : jW2 (jgo jTT jMM (d + 1) 94 [.ref 38, .int a, .int v, .int x, .int (-1), .int (-1)] (shC, I1, L1, pX pa pb (some 38) pw) KC) (jgo jTT jMM (e + 1) 266 [.ref 0, .int a', .int x', .int y, .int 0, .long 0] (shR, J1, L1', pR) KR) Q' := by
  have hg : 38 = 38 ∨ 38 = 49 := by decide
  have hT := ok.1.1
  have hnc := ok.2.2.2.2.2.1
  have hnr := ok.2.2.2.2.2.2.1
  have st1 := eSt.adv hg ok.st hlt
  obtain ⟨I2, L2, J2, L2', x2, y2, e1, e2, e3, e4, hh⟩ := hq
  cases e1; cases e2; cases e3; cases e4
  rcases hh with ⟨now2, nc2, nr2, n2, k2, lt2, st2, rfl, rfl, hh⟩ | ⟨now1, nc1, now2, nr2, hf⟩
  · have st3 := eSt.trans st1 st2
    obtain ⟨_, _, a3, a4, a5, a6, a7, a8, a9, a10, a11, a12, a13, a14, a15⟩ := id st2
    have st4 := eSt.add hg st3 (by omega) (by omega) a v (nI n2) (-1) (-1) a' x' (nI k2) 0 0
    obtain ⟨_, _, _, _, _, _, r3, _⟩ := adR_at (J := J1) nr2 a' x' (nI k2) 0
    rw [jgo_some (d := d) rfl (add_c38 (d := d) (L := L1) (pa := pa) (pb := pb) (pu := some 38) (pw := pw) a12 (show nc2 < 1201 by omega) a v (nI n2) (-1) (-1)), jgo_some (d := e) rfl (node_r (e := e) (L' := L1') a15 (show nr2 < 1400 by omega) a' x' (nI k2) 0 0)]
    refine hK _ _ _ _ ?_
    rcases hh with ⟨h29', hp2⟩ | ⟨h40, h29', h30'⟩
    · exact eQ.ok (by omega) st4 (by rw [r3 29 (by decide)]; exact h29') (pst.up hp2 (by omega) (by omega) (by omega) a5 a6 _ _ _ _ _ _ _ _ _ _ (fun C R V c0 c1 c2 c3 c4 r0 r1 r2 r3 v0 z => Or.inl ⟨rfl, hx C R V _ _ _ _ _ c0 c1 c4 r0 r1 r2 z⟩))
    · exact eQ.pd (by omega) st4 h40 (by rw [r3 29 (by decide)]; exact h29') (by rw [r3 30 (by decide)]; exact h30')
  · have hf1 := eF.pre st1 hf
    have q1 := hf1.2.2.2.2.2.2.2.1
    have q2 := hf1.2.2.2.2.2.2.1
    have q3 := hf1.2.2.2.2.2.2.2.2.2.2.2.2.2
    have q4 := hf1.2.2.2.2.2.2.2.2.2.2.2.2.1
    have q5 := hf1.2.2.2.2.2.2.2.2.2.1
    have q6 := hf.2.2.2.2.2.2.2.2.2.2.2.2.1
    have hf2 := eF.addR hf1 (by omega) a' x' y 0 0
    rw [jgo_some (d := e) rfl (node_r (e := e) (L' := L1') q3 (show nr2 < 1400 by omega) a' x' y 0 0)]
    rcases Nat.lt_or_eq_of_le q2 with z | z
    · rw [jgo_some (d := d) rfl (add_c38 q1 z _ _ _ _ _)]
      exact hK _ _ _ _ (eQ.f (eF.addC hg hf2 z a v x (-1) (-1)) _ _)
    · rw [jgo_some (d := d) rfl (add_f38 (by rw [q1, z]) _ _ _ _ _)]
      exact hK _ _ _ _ (eQ.f hf2 _ _)
theorem brack_sim49 {d e h : Nat} {D D' : Int32} (H : ∀ (I : Nat → Nat → Int32) (L : Nat → Nat → Int64) (J : Nat → Nat → Int32) (L' : Nat → Nat → Int64) (now nc nr : Nat), pOk 49 T K P W U Q nm kd nb nl nt nu s cw rho now nc nr I L J L' → jW2 (jv (d + 5) 25 0 [some (.ref 27), some (.int (D + 1)), none, none, none, none, none] [] (shC, I, L, pX pa pb (some 49) pw)) (jv (e + 5) 270 0 [some (.ref 0), some (.int (D' + 1)), none, none] [] (shR, J, L', pR)) (eQ 49 T K P nl nt lam s rho h true now nc nr I L J L' (pX pa pb (some 49) pw))) {I J : Nat → Nat → Int32} {L L' : Nat → Nat → Int64} {now nc nr : Nat} (ok : pOk 49 T K P W U Q nm kd nb nl nt nu s cw rho now nc nr I L J L') : jW2 (jv (d + 6) 28 0 [some (.ref 27), some (.int D), none] [] (shC, I, L, pX pa pb (some 49) pw)) (jv (e + 6) 277 0 [some (.ref 0), some (.int D'), none] [] (shR, J, L', pR)) (eQ 49 T K P nl nt lam s rho h true now nc nr I L J L' (pX pa pb (some 49) pw)) := by
  have hg : 49 = 38 ∨ 49 = 49 := by decide
  have hT := ok.1.1
  have hnc := ok.2.2.2.2.2.1
  have hnT := ok.2.2.2.2.1
  rw [B28_0, B277_0]
  rcases want_ok hg ok.1 ok.st ok.2.2.2.2.2.2.2.2.1 (show nc ≤ 1201 by omega) (k := 40) (by decide) (by decide) (d + 4) (e + 4) pa pb (some 49) pw with ⟨q, ec, er, lt, st1, h29⟩ | ⟨q, I2, J2, n1, c1, n2, r2, ec, er, hf⟩
  · rw [show (40 : Int32) = nI 40 from rfl, jgo_some (d := d + 5) rfl ec, show nI 40 = nI (kR 40) from rfl, jgo_some (d := e + 5) rfl er]
    dsimp only [Option.toList_some, Option.toList_none, List.cons_append, List.nil_append]
    rw [B28_6, B277_6]
    refine jW2_go rfl rfl (H _ _ _ _ _ _ _ (eSt.ok hg ok st1 h29)) ?_
    rintro v S w S' ⟨I2, L2, J2, L2', x, y, rfl, rfl, rfl, rfl, hh⟩
    dsimp only [Option.toList_some, Option.toList_none, List.cons_append, List.nil_append]
    rw [B28_14, B277_14, show (41 : Int32) = nI 41 from rfl]
    rcases hh with ⟨now2, nc2, nr2, n2, k2, lt2, st2, rfl, rfl, hh⟩ | ⟨now1, nc1, now2, nr2, hf⟩
    · have st3 := eSt.trans st1 st2
      have b3 := st3.2.2.2.2.2.2.1
      have b4 := st3.2.2.2.1
      rcases hh with ⟨h29', hp2⟩ | ⟨h40, h29', h30'⟩
      · rcases want_ok hg ok.1 st3 h29' (show nc2 ≤ 1201 by omega) (k := 41) (by decide) (by decide) (d + 4) (e + 4) pa pb (some 49) pw with ⟨q2, ec2, er2, lt3, st4, h294⟩ | ⟨q2, I3, J3, n1, c1, n3, r3, ec2, er2, hf⟩
        · rw [jgo_some (d := d + 5) rfl ec2, show nI 41 = nI (kR 41) from rfl, jgo_some (d := e + 5) rfl er2]
          dsimp only [Option.toList_some, Option.toList_none, List.cons_append, List.nil_append]
          rw [B28_21, B277_21]
          exact jW2_some (eQ.ok (by omega) st4 h294 (hp2.eqs (Nat.le_refl _) (by omega) (fun c _ => j_up_cell _ (by omega) _ _) (fun c _ => j_up_cell _ (by omega) _ _) rfl))
        · rw [jgo_some (d := d + 5) rfl ec2, show nI 41 = nI (kR 41) from rfl, jgo_some (d := e + 5) rfl er2]
          dsimp only [Option.toList_some, Option.toList_none, List.cons_append, List.nil_append]
          rw [B28_21, B277_21]
          exact jW2_some (eQ.f hf _ _)
      · obtain ⟨I3, n1, c1, n3, r3, ec2, er2, hf⟩ := want_bad hg ok.1 (Or.inl ⟨now2, nc2, nr2, st3, by omega, h40, h29', h30'⟩) (k := 41) (by decide) (by decide) (d + 4) (e + 4) pa pb (some 49) pw
        rw [jgo_some (d := d + 5) rfl ec2, show nI 41 = nI (kR 41) from rfl, jgo_some (d := e + 5) rfl er2]
        dsimp only [Option.toList_some, Option.toList_none, List.cons_append, List.nil_append]
        rw [B28_21, B277_21]
        exact jW2_some (eQ.f hf _ _)
    · have hf1 := eF.pre st1 hf
      rw [jgo_some (d := d + 5) rfl (expect_cf (d := d + 4) hf1.f.1 _), jgo_some (d := e + 5) rfl (want_rf hf1.f.2 _)]
      dsimp only [Option.toList_some, Option.toList_none, List.cons_append, List.nil_append]
      rw [B28_21, B277_21]
      exact jW2_some (eQ.f hf1 _ _)
  · rw [show (40 : Int32) = nI 40 from rfl, jgo_some (d := d + 5) rfl ec, show nI 40 = nI (kR 40) from rfl, jgo_some (d := e + 5) rfl er]
    dsimp only [Option.toList_some, Option.toList_none, List.cons_append, List.nil_append]
    rw [B28_6, B277_6, jgo_some (d := d + 5) rfl (sum_cf49 (d := d + 2) hf.f.1 _ _ _ _ _ _), jgo_some (d := e + 5) rfl (sum_rf (e := e + 3) hf.f.2 _ _ _)]
    dsimp only [Option.toList_some, Option.toList_none, List.cons_append, List.nil_append]
    rw [B28_14, B277_14, jgo_some (d := d + 5) rfl (expect_cf (d := d + 4) hf.f.1 _), jgo_some (d := e + 5) rfl (want_rf hf.f.2 _)]
    dsimp only [Option.toList_some, Option.toList_none, List.cons_append, List.nil_append]
    rw [B28_21, B277_21]
    exact jW2_some (eQ.f hf _ _)
/-- a word that stands alone: one node in both -/
theorem alone_sim49 {e h : Nat} {I J : Nat → Nat → Int32} {L L' : Nat → Nat → Int64} {now nc nr : Nat} (ok : pOk 49 T K P W U Q nm kd nb nl nt nu s cw rho now nc nr I L J L') (hlt : now < T) (a v a' x' : Int32) (hx : ∀ (C R : Nat → Nat → Int32) (V : Nat → Int64), C 0 nc = a → C 4 nc = v → R 0 nr = a' → R 1 nr = x' → relN C R V nl nt lam (fun b' w2 s' r' n' k' => rel C R V nl nt lam h b' w2 s' r' n' k') lam s rho nc nr) : ∃ J3, jv (e + 1) 276 0 [some (.ref 0), some (.int (nI nr))] [] (shR, adR (j_up J 0 28 (nI (now + 1))) nr a' x' 0 0, j_up L' 25 nr 0, pR) = some (some (.int (nI nr)), (shR, J3, j_up L' 25 nr 0, pR)) ∧ eQ 49 T K P nl nt lam s rho (h + 1) true now nc nr I L J L' (pX pa pb (some 49) pw) (some (.int (nI nc))) (shC, adC 49 (j_up I 27 7 (nI (now + 1))) nc a v (-1) (-1) (-1), L, pX pa pb (some 49) pw) (some (.int (nI nr))) (shR, J3, j_up L' 25 nr 0, pR) := by
  have hg : 49 = 38 ∨ 49 = 49 := by decide
  have hT := ok.1.1
  have hnc := ok.2.2.2.2.2.1
  have hnr := ok.2.2.2.2.2.2.1
  have st1 := eSt.adv hg ok.st hlt
  have st2 := eSt.add hg st1 (by omega) (by omega) a v (-1) (-1) (-1) a' x' 0 0 0
  have tk := eSt.tk hg st2 ok.1
  obtain ⟨e1, g1, g2, g3, g4, e2, e3, e4⟩ := adR_at (J := j_up J 0 28 (nI (now + 1))) nr a' x' 0 0
  have h29 : adR (j_up J 0 28 (nI (now + 1))) nr a' x' 0 0 0 29 = 0 := by rw [e3 29 (by decide), j_up_own, if_neg (by decide)]; exact ok.2.2.2.2.2.2.2.2.1
  have al := alone_r (e := e) tk st2.2.2.2.1 h29 st2.2.2.2.2.2.2.2.2.2.2.2.2.2.1 (nI nr)
  refine ⟨_, al, ?_⟩
  by_cases q : K (now + 1) = 40
  · rw [if_pos q]
    refine eQ.pd (now' := now + 1) (nc' := nc + 1) (nr' := nr + 1) (by omega) ?_ q ?_ ?_
    · obtain ⟨b1, b2, b3, b4, b5, b6, b7, b8, b9, b10, b11, b12, b13, b14, b15⟩ := st2
      refine ⟨b1, flR_fr b2 2 _, b3, b4, b5, b6, b7, b8, b9, b10, b11, b12, ?_, ?_, ?_⟩
      · unfold flR; rw [j_up_own, if_neg (by decide), j_up_own, if_neg (by decide)]; exact b13
      · unfold flR; rw [j_up_own, if_neg (by decide), j_up_own, if_neg (by decide)]; exact b14
      · unfold flR; rw [j_up_own, if_neg (by decide), j_up_own, if_neg (by decide)]; exact b15
    · unfold flR; rw [j_up_own, if_neg (by decide), j_up_own, if_pos rfl]; rfl
    · unfold flR; rw [j_up_own, if_pos rfl]
  · rw [if_neg q]
    refine eQ.ok (now' := now + 1) (nc' := nc + 1) (nr' := nr + 1) (by omega) st2 h29 ?_
    refine pst.one (by omega) (by omega) (by omega) a v (-1) (-1) (-1) a' x' 0 0 0 (fun C R V c0 c1 c2 c3 c4 r0 r1 r2 r3 v0 => ?_)
    rw [show lam + (now + 1 - now) - 1 = lam by omega]
    exact hx C R V c0 c4 r0 r1
/-- a word with brackets: the node above the part in them -/
theorem ofB49 {d e h : Nat} {I J : Nat → Nat → Int32} {L L' : Nat → Nat → Int64} {now nc nr : Nat} (ok : pOk 49 T K P W U Q nm kd nb nl nt nu s cw rho now nc nr I L J L') (hlt : now < T) (a v a' x' x y : Int32) {I1 J1 : Nat → Nat → Int32} {L1 L1' : Nat → Nat → Int64} (hq : eQ 49 T K P nl nt lam s rho h true (now + 1) nc nr (j_up I 27 7 (nI (now + 1))) L (j_up J 0 28 (nI (now + 1))) L' (pX pa pb (some 49) pw) (some (.int x)) (shC, I1, L1, pX pa pb (some 49) pw) (some (.int y)) (shR, J1, L1', pR)) (hx : ∀ (C R : Nat → Nat → Int32) (V : Nat → Int64) (w n k n1 k1 : Nat), C 0 n = a → C 1 n = nI n1 → C 4 n = v → R 0 k = a' → R 1 k = x' → R 2 k = nI k1 → rel C R V nl nt lam h true w s rho n1 k1 → relN C R V nl nt lam (fun b' w2 s' r' n' k' => rel C R V nl nt lam h b' w2 s' r' n' k') w s rho n k) (Q' : Option Value → jS → Option Value → jS → Prop) (KC KR : Option Value → jS → jO) (hK : ∀ x' S y' S', eQ 49 T K P nl nt lam s rho (h + 1) true now nc nr I L J L' (pX pa pb (some 49) pw) (some (.int x')) S (some (.int y')) S' → jW2 (KC (some (.int x')) S) (KR (some (.int y')) S') Q') : jW2 (jgo jTT jMM (d + 1) 94 [.ref 49, .int a, .int v, .int x, .int (-1), .int (-1)] (shC, I1, L1, pX pa pb (some 49) pw) KC) (jgo jTT jMM (e + 1) 266 [.ref 0, .int a', .int x', .int y, .int 0, .long 0] (shR, J1, L1', pR) KR) Q' := by
  have hg : 49 = 38 ∨ 49 = 49 := by decide
  have hT := ok.1.1
  have hnc := ok.2.2.2.2.2.1
  have hnr := ok.2.2.2.2.2.2.1
  have st1 := eSt.adv hg ok.st hlt
  obtain ⟨I2, L2, J2, L2', x2, y2, e1, e2, e3, e4, hh⟩ := hq
  cases e1; cases e2; cases e3; cases e4
  rcases hh with ⟨now2, nc2, nr2, n2, k2, lt2, st2, rfl, rfl, hh⟩ | ⟨now1, nc1, now2, nr2, hf⟩
  · have st3 := eSt.trans st1 st2
    obtain ⟨_, _, a3, a4, a5, a6, a7, a8, a9, a10, a11, a12, a13, a14, a15⟩ := id st2
    have st4 := eSt.add hg st3 (by omega) (by omega) a v (nI n2) (-1) (-1) a' x' (nI k2) 0 0
    obtain ⟨_, _, _, _, _, _, r3, _⟩ := adR_at (J := J1) nr2 a' x' (nI k2) 0
    rw [jgo_some (d := d) rfl (add_c49 (d := d) (L := L1) (pa := pa) (pb := pb) (pu := some 49) (pw := pw) a12 (show nc2 < 1201 by omega) a v (nI n2) (-1) (-1)), jgo_some (d := e) rfl (node_r (e := e) (L' := L1') a15 (show nr2 < 1400 by omega) a' x' (nI k2) 0 0)]
    refine hK _ _ _ _ ?_
    rcases hh with ⟨h29', hp2⟩ | ⟨h40, h29', h30'⟩
    · exact eQ.ok (by omega) st4 (by rw [r3 29 (by decide)]; exact h29') (pst.up hp2 (by omega) (by omega) (by omega) a5 a6 _ _ _ _ _ _ _ _ _ _ (fun C R V c0 c1 c2 c3 c4 r0 r1 r2 r3 v0 z => Or.inl ⟨rfl, hx C R V _ _ _ _ _ c0 c1 c4 r0 r1 r2 z⟩))
    · exact eQ.pd (by omega) st4 h40 (by rw [r3 29 (by decide)]; exact h29') (by rw [r3 30 (by decide)]; exact h30')
  · have hf1 := eF.pre st1 hf
    have q1 := hf1.2.2.2.2.2.2.2.1
    have q2 := hf1.2.2.2.2.2.2.1
    have q3 := hf1.2.2.2.2.2.2.2.2.2.2.2.2.2
    have q4 := hf1.2.2.2.2.2.2.2.2.2.2.2.2.1
    have q5 := hf1.2.2.2.2.2.2.2.2.2.1
    have q6 := hf.2.2.2.2.2.2.2.2.2.2.2.2.1
    have hf2 := eF.addR hf1 (by omega) a' x' y 0 0
    rw [jgo_some (d := e) rfl (node_r (e := e) (L' := L1') q3 (show nr2 < 1400 by omega) a' x' y 0 0)]
    rcases Nat.lt_or_eq_of_le q2 with z | z
    · rw [jgo_some (d := d) rfl (add_c49 q1 z _ _ _ _ _)]
      exact hK _ _ _ _ (eQ.f (eF.addC hg hf2 z a v x (-1) (-1)) _ _)
    · rw [jgo_some (d := d) rfl (add_f49 (by rw [q1, z]) _ _ _ _ _)]
      exact hK _ _ _ _ (eQ.f hf2 _ _)
end PARK
