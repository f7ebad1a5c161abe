/-! RULES: not, brackets of conditions, comparisons -/
section PARN
variable {T : Nat} {K P : Nat → Nat} {W : Nat → List Nat} {U : Nat → Nat} {Q : Nat} {nm : Nat → List Nat} {kd nb : Nat → Nat} {nl nt nu s : Nat} {cw : Nat → List Nat} {rho : Nat → Nat} {lam : Nat} {pa pb pw : Option Nat}
def cmpK (k : Nat) : Prop := k = 61 ∨ k = 35 ∨ k = 60 ∨ k = 62 ∨ k = 108 ∨ k = 103
theorem cmp_r {e : Nat} {I J : Nat → Nat → Int32} {L L' : Nat → Nat → Int64} {now : Nat} (tk : tkS T K P W U I L J L') (hn : now ≤ T) (h29 : J 0 29 = 0) (h28 : J 0 28 = nI now) (D' y : Int32) (o2 : Option Value) : (¬ cmpK (K now) ∧ jv (e + 1) 269 112 [some (.ref 0), some (.int D'), o2, none] [.int y] (shR, J, L', pR) = jv (e + 1) 269 205 [some (.ref 0), some (.int D'), some (.int y), none] [.int 0] (shR, J, L', pR)) ∨ (cmpK (K now) ∧ ∃ op : Int32, op ≠ 0 ∧ opQ (nI (K now)) op ∧ jv (e + 1) 269 112 [some (.ref 0), some (.int D'), o2, none] [.int y] (shR, J, L', pR) = jv (e + 1) 269 205 [some (.ref 0), some (.int D'), some (.int y), none] [.int op] (shR, J, L', pR)) := by
  have i1 := is_r (e := e) tk hn h28 (k := 61) (by decide)
  have i2 := is_r (e := e) tk hn h28 (k := 35) (by decide)
  have i3 := is_r (e := e) tk hn h28 (k := 60) (by decide)
  have i4 := is_r (e := e) tk hn h28 (k := 62) (by decide)
  have i5 := is_r (e := e) tk hn h28 (k := 108) (by decide)
  have i6 := is_r (e := e) tk hn h28 (k := 103) (by decide)
  rw [show nI (kR 61) = (61 : Int32) from rfl] at i1
  rw [show nI (kR 35) = (35 : Int32) from rfl] at i2
  rw [show nI (kR 60) = (60 : Int32) from rfl] at i3
  rw [show nI (kR 62) = (62 : Int32) from rfl] at i4
  rw [show nI (kR 108) = (3 : Int32) from rfl] at i5
  rw [show nI (kR 103) = (4 : Int32) from rfl] at i6
  rw [B269_112, if_pos h29, jgo_some (d := e) rfl i1]
  dsimp only [Option.toList_some, Option.toList_none, List.cons_append, List.nil_append]
  rw [B269_128]
  by_cases q1 : K now = 61
  · rw [if_pos q1, if_neg (by decide), q1]
    exact Or.inr ⟨Or.inl rfl, 23, by decide, by unfold opQ; decide, rfl⟩
  rw [if_neg q1, if_pos rfl, jgo_some (d := e) rfl i2]
  dsimp only [Option.toList_some, Option.toList_none, List.cons_append, List.nil_append]
  rw [B269_142]
  by_cases q2 : K now = 35
  · rw [if_pos q2, if_neg (by decide), q2]
    exact Or.inr ⟨by unfold cmpK; decide, 24, by decide, by unfold opQ; decide, rfl⟩
  rw [if_neg q2, if_pos rfl, jgo_some (d := e) rfl i3]
  dsimp only [Option.toList_some, Option.toList_none, List.cons_append, List.nil_append]
  rw [B269_156]
  by_cases q3 : K now = 60
  · rw [if_pos q3, if_neg (by decide), q3]
    exact Or.inr ⟨by unfold cmpK; decide, 25, by decide, by unfold opQ; decide, rfl⟩
  rw [if_neg q3, if_pos rfl, jgo_some (d := e) rfl i4]
  dsimp only [Option.toList_some, Option.toList_none, List.cons_append, List.nil_append]
  rw [B269_170]
  by_cases q4 : K now = 62
  · rw [if_pos q4, if_neg (by decide), q4]
    exact Or.inr ⟨by unfold cmpK; decide, 26, by decide, by unfold opQ; decide, rfl⟩
  rw [if_neg q4, if_pos rfl, jgo_some (d := e) rfl i5]
  dsimp only [Option.toList_some, Option.toList_none, List.cons_append, List.nil_append]
  rw [B269_183]
  by_cases q5 : K now = 108
  · rw [if_pos q5, if_neg (by decide), q5]
    exact Or.inr ⟨by unfold cmpK; decide, 27, by decide, by unfold opQ; decide, rfl⟩
  rw [if_neg q5, if_pos rfl, jgo_some (d := e) rfl i6]
  dsimp only [Option.toList_some, Option.toList_none, List.cons_append, List.nil_append]
  rw [B269_196]
  by_cases q6 : K now = 103
  · rw [if_pos q6, if_neg (by decide), q6]
    exact Or.inr ⟨by unfold cmpK; decide, 28, by decide, by unfold opQ; decide, rfl⟩
  rw [if_neg q6, if_pos rfl]
  exact Or.inl ⟨by unfold cmpK; omega, rfl⟩
theorem cmp_c38 {d : Nat} {I J : Nat → Nat → Int32} {L L' : Nat → Nat → Int64} {now : Nat} (tk : tkS T K P W U I L J L') (hn : now ≤ T) (h7 : I 27 7 = nI now) (D x : Int32) (o2 o3 : Option Value) : (cmpK (K now) → jv d 24 98 [some (.ref 27), some (.int D), o2, o3] [.int x] (shC, I, L, pX pa pb (some 38) pw) = jv d 24 155 [some (.ref 27), some (.int D), some (.int x), some (.int (nI (K now)))] [] (shC, I, L, pX pa pb (some 38) pw)) ∧ (¬ cmpK (K now) → jv d 24 98 [some (.ref 27), some (.int D), o2, o3] [.int x] (shC, I, L, pX pa pb (some 38) pw) = jgo jTT jMM d 7 [.ref 27, .int 2, .int (nI now)] (shC, I, L, pX pa pb (some 38) pw) (fun v S => jv d 24 154 [some (.ref 27), some (.int D), some (.int x), some (.int (nI (K now)))] (v.toList ++ []) S)) := by
  have q := tk.2.2.2.1 now hn
  have hT := tk.1
  have hk := kR_lt _ q.2.2.2.2
  have ee : ∀ k : Nat, k < 256 → (nI (K now) = nI k ↔ K now = k) := fun k hk' => nI_eq (by omega) (by omega)
  rw [B24_98_g38, h7, if_pos (j_in_nI (by omega) (by decide)), nI_clamp (by omega), q.1]
  rw [show (61 : Int32) = nI 61 from rfl, show (35 : Int32) = nI 35 from rfl, show (60 : Int32) = nI 60 from rfl, show (62 : Int32) = nI 62 from rfl, show (108 : Int32) = nI 108 from rfl, show (103 : Int32) = nI 103 from rfl]
  simp only [ee 61 (by decide), ee 35 (by decide), ee 60 (by decide), ee 62 (by decide), ee 108 (by decide), ee 103 (by decide)]
  constructor
  · intro hc
    by_cases q1 : K now = 61
    · rw [if_pos q1]
    rw [if_neg q1]
    by_cases q2 : K now = 35
    · rw [if_pos q2]
    rw [if_neg q2]
    by_cases q3 : K now = 60
    · rw [if_pos q3]
    rw [if_neg q3]
    by_cases q4 : K now = 62
    · rw [if_pos q4]
    rw [if_neg q4]
    by_cases q5 : K now = 108
    · rw [if_pos q5]
    rw [if_neg q5, if_pos (by unfold cmpK at hc; omega)]
  · intro hc
    unfold cmpK at hc
    rw [if_neg (by omega), if_neg (by omega), if_neg (by omega), if_neg (by omega), if_neg (by omega), if_neg (by omega)]
/-- behind a fault the first reader may still add a node -/
theorem neg98_cf38 {d now nc : Nat} {I : Nat → Nat → Int32} {L : Nat → Nat → Int64} (h0 : I 27 0 ≠ 0) (h7 : I 27 7 = nI now) (hn : now ≤ 1200) (hg : I 38 10 = nI nc) (hc : nc ≤ 1201) (l1 t : Int32) (o2 o3 : Option Value) : ∃ x I', jv (d + 4) 24 98 [some (.ref 27), some (.int l1), o2, o3] [.int t] (shC, I, L, pX pa pb (some 38) pw) = some (some (.int x), (shC, I', L, pX pa pb (some 38) pw)) ∧ cfr 38 nc I I' := by
  have s2 : ∀ (k : Int32), ∃ x I', jv (d + 4) 24 155 [some (.ref 27), some (.int l1), some (.int t), some (.int k)] [] (shC, I, L, pX pa pb (some 38) pw) = some (some (.int x), (shC, I', L, pX pa pb (some 38) pw)) ∧ cfr 38 nc I I' := by
    intro k
    rw [B24_155_g38, if_neg h0, B24_172_g38, Int32_add0, j_up_id, jgo_some (d := d + 3) rfl (sum_cf38 h0 _ _ _ _ _ _)]
    dsimp only [Option.toList_some, Option.toList_none, List.cons_append, List.nil_append]
    rw [B24_191_g38]
    rcases Nat.lt_or_eq_of_le hc with z | z
    · refine ⟨nI nc, _, ?_, adC_cfr z 15 k t (-1) (-1)⟩
      rw [jgo_some (d := d + 3) rfl (add_c38 hg z _ _ _ _ _)]
      dsimp only [Option.toList_some, Option.toList_none, List.cons_append, List.nil_append]
      rw [B24_195_g38]
    · refine ⟨-1, I, ?_, cfr.refl hc hg⟩
      rw [jgo_some (d := d + 3) rfl (add_f38 (by rw [hg, z]) _ _ _ _ _)]
      dsimp only [Option.toList_some, Option.toList_none, List.cons_append, List.nil_append]
      rw [B24_195_g38]
  rw [B24_98_g38, h7, if_pos (j_in_nI (by omega) (by decide)), nI_clamp (by omega)]
  by_cases q1 : I 28 now = 61
  · rw [if_pos q1]; exact s2 _
  rw [if_neg q1]
  by_cases q2 : I 28 now = 35
  · rw [if_pos q2]; exact s2 _
  rw [if_neg q2]
  by_cases q3 : I 28 now = 60
  · rw [if_pos q3]; exact s2 _
  rw [if_neg q3]
  by_cases q4 : I 28 now = 62
  · rw [if_pos q4]; exact s2 _
  rw [if_neg q4]
  by_cases q5 : I 28 now = 108
  · rw [if_pos q5]; exact s2 _
  rw [if_neg q5]
  by_cases q6 : I 28 now = 103
  · rw [if_pos q6]; exact s2 _
  rw [if_neg q6]
  refine ⟨-1, I, ?_, cfr.refl hc hg⟩
  rw [jgo_some (d := d + 3) rfl (fail_cf h0 _ _)]
  dsimp only [Option.toList_some, Option.toList_none, List.cons_append, List.nil_append]
  rw [B24_154_g38]
theorem neg_sim38 {d e h : Nat} {D D' : Int32} (hD : (24 < D ∧ D' = 24) ∨ (¬ 24 < D ∧ D' ≠ 24)) (Hn : ∀ (I : Nat → Nat → Int32) (L : Nat → Nat → Int64) (J : Nat → Nat → Int32) (L' : Nat → Nat → Int64) (now nc nr : Nat), pOk 38 T K P W U Q nm kd nb nl nt nu s cw rho now nc nr I L J L' → jW2 (jv (d + 6) 24 0 [some (.ref 27), some (.int (D + 1)), none, none] [] (shC, I, L, pX pa pb (some 38) pw)) (jv (e + 6) 269 0 [some (.ref 0), some (.int (D' + 1)), none, none] [] (shR, J, L', pR)) (eQ 38 T K P nl nt lam s rho h false now nc nr I L J L' (pX pa pb (some 38) pw))) (Hc : ∀ (I : Nat → Nat → Int32) (L : Nat → Nat → Int64) (J : Nat → Nat → Int32) (L' : Nat → Nat → Int64) (now nc nr : Nat), pOk 38 T K P W U Q nm kd nb nl nt nu s cw rho now nc nr I L J L' → jW2 (jv (d + 6) 21 0 [some (.ref 27), some (.int (D + 1)), none, none, none, none] [] (shC, I, L, pX pa pb (some 38) pw)) (jv (e + 6) 267 0 [some (.ref 0), some (.int (D' + 1)), none] [] (shR, J, L', pR)) (eQ 38 T K P nl nt lam s rho h false now nc nr I L J L' (pX pa pb (some 38) pw))) (Hs : ∀ (I : Nat → Nat → Int32) (L : Nat → Nat → Int64) (J : Nat → Nat → Int32) (L' : Nat → Nat → Int64) (now nc nr : Nat), pOk 38 T K P W U Q nm kd nb nl nt nu s cw rho now nc nr I L J L' → jW2 (jv (d + 6) 25 0 [some (.ref 27), some (.int (D + 1)), none, none, none, none, none] [] (shC, I, L, pX pa pb (some 38) pw)) (jv (e + 6) 270 0 [some (.ref 0), some (.int (D' + 1)), none, none] [] (shR, J, L', pR)) (eQ 38 T K P nl nt lam s rho h true now nc nr I L J L' (pX pa pb (some 38) pw))) {I J : Nat → Nat → Int32} {L L' : Nat → Nat → Int64} {now nc nr : Nat} (ok : pOk 38 T K P W U Q nm kd nb nl nt nu s cw rho now nc nr I L J L') : jW2 (jv (d + 7) 24 0 [some (.ref 27), some (.int D), none, none] [] (shC, I, L, pX pa pb (some 38) pw)) (jv (e + 7) 269 0 [some (.ref 0), some (.int D'), none, none] [] (shR, J, L', pR)) (eQ 38 T K P nl nt lam s rho (h + 1) false now nc nr I L J L' (pX pa pb (some 38) pw)) := by
  have hg : 38 = 38 ∨ 38 = 49 := by decide
  obtain ⟨tk, kw, hN, hC, a5, a6, a7, a8, a9, a10, a11, a12, a13⟩ := id ok
  have hT := ok.1.1
  have tq := tk.2.2.2.1 now a5
  rw [B24_0_g38, B269_0, if_pos a9]
  rcases hD with ⟨dc, dr⟩ | ⟨dc, dr⟩
  · rw [if_pos dc, if_pos dr, a10, a11, if_pos (j_in_nI (by omega) (by decide)), nI_clamp (by omega), tq.2.2.2.1, show (5 : Int32) = nI 5 from rfl, jgo_some (d := d + 6) rfl (fail_c tk a5 a8 5), jgo_some (d := e + 6) rfl (fails_rk a9 5 (P now))]
    dsimp only [Option.toList_some, Option.toList_none, List.cons_append, List.nil_append]
    rw [B24_15_g38, B269_29]
    exact jW2_some (eQ.f (eSt.fl hg ok.st (by decide) (by omega)) _ _)
  rw [if_neg dc, if_neg dr, show (9 : Int32) = nI 9 from rfl, jgo_some (d := d + 6) rfl (nowkey_c (d := d + 5) kw tk a5 a8 a10 (k := 9) (by decide)), jgo_some (d := e + 6) rfl (isw_2011 (e := e + 5) tk a5 a11)]
  dsimp only [Option.toList_some, Option.toList_none, List.cons_append, List.nil_append]
  rw [B24_22_g38, B269_39]
  by_cases q : K now = 97 ∧ W now = kwA.getD 9 []
  · have lt : now < T := tk.lt a5 q.1 (by decide)
    have st1 := eSt.adv hg ok.st lt
    have ok1 : pOk 38 T K P W U Q nm kd nb nl nt nu s cw rho (now + 1) nc nr (j_up I 27 7 (nI (now + 1))) L (j_up J 0 28 (nI (now + 1))) L' := eSt.ok hg ok st1 (by rw [j_up_own, if_neg (by decide)]; exact a9)
    rw [if_pos q, if_neg (by decide), if_neg (by decide), a10, a11, show nI now + 1 = nI (now + 1) from nI_add now 1]
    refine jW2_go rfl rfl (Hn _ _ _ _ _ _ _ ok1) ?_
    intro v S w S' hq
    obtain ⟨I2, L2, J2, L2', x, y, rfl, rfl, rfl, rfl, hh⟩ := id hq
    dsimp only [Option.toList_some, Option.toList_none, List.cons_append, List.nil_append]
    rw [B24_49_g38, B269_62]
    exact unary38 (d := d + 6) (e := e + 6) (b := false) (b2 := false) ok lt 14 22 x y hq (fun C R V w n k n1 k1 c0 c1 r0 r1 z => Or.inr ⟨rfl, Or.inl ⟨c0, r0, n1, k1, c1, r1, z⟩⟩) _ _ _ (fun x' S y' S' hz => by
      obtain ⟨I3, L3, J3, L3', x3, y3, e1, e2, rfl, rfl, _⟩ := id hz
      dsimp only [Option.toList_some, Option.toList_none, List.cons_append, List.nil_append]
      rw [B24_54_g38, B269_68]
      exact jW2_some hz)
  rw [if_neg q, if_pos rfl, if_pos rfl]
  have i91 := is_r (e := e + 6) tk a5 a11 (k := 91) (by decide)
  rw [show nI (kR 91) = (91 : Int32) from rfl] at i91
  rw [jgo_some (d := e + 6) rfl i91, show (91 : Int32) = nI 91 from rfl, jgo_some (d := d + 6) rfl (now_c tk a5 a8 a10 (k := 91) (by decide))]
  dsimp only [Option.toList_some, Option.toList_none, List.cons_append, List.nil_append]
  rw [B24_61_g38, B269_75]
  by_cases q1 : K now = 91
  · have lt : now < T := tk.lt a5 q1 (by decide)
    have st1 := eSt.adv hg ok.st lt
    have ok1 : pOk 38 T K P W U Q nm kd nb nl nt nu s cw rho (now + 1) nc nr (j_up I 27 7 (nI (now + 1))) L (j_up J 0 28 (nI (now + 1))) L' := eSt.ok hg ok st1 (by rw [j_up_own, if_neg (by decide)]; exact a9)
    rw [if_pos q1, if_neg (by decide), if_neg (by decide), a10, a11, show nI now + 1 = nI (now + 1) from nI_add now 1]
    refine jW2_go rfl rfl (Hc _ _ _ _ _ _ _ ok1) ?_
    rintro v S w S' ⟨I2, L2, J2, L2', x, y, rfl, rfl, rfl, rfl, hh⟩
    dsimp only [Option.toList_some, Option.toList_none, List.cons_append, List.nil_append]
    rw [B24_81_g38, B269_95, show (93 : Int32) = nI 93 from rfl]
    rcases hh with ⟨now2, nc2, nr2, n2, k2, lt2, st2, rfl, rfl, hh⟩ | ⟨now1, nc1, now2, nr2, hf⟩
    · have st3 := eSt.trans st1 st2
      have b3 := st3.2.2.2.2.2.2.1
      have b4 := st3.2.2.2.1
      rcases hh with ⟨h29', hp2⟩ | ⟨h40, h29', h30'⟩
      · rcases want_ok hg ok.1 st3 h29' (show nc2 ≤ 1201 by omega) (k := 93) (by decide) (by decide) (d + 5) (e + 5) pa pb (some 38) pw with ⟨q2, ec2, er2, lt3, st4, h294⟩ | ⟨q2, I3, J3, n1, c1, n3, r3, ec2, er2, hf⟩
        · rw [jgo_some (d := d + 6) rfl ec2, show nI 93 = nI (kR 93) from rfl, jgo_some (d := e + 6) rfl er2]
          dsimp only [Option.toList_some, Option.toList_none, List.cons_append, List.nil_append]
          rw [B24_88_g38, B269_102]
          exact jW2_some (eQ.ok (by omega) st4 h294 (hp2.eqs (by omega) (by omega) (fun c _ => j_up_cell _ (by omega) _ _) (fun c _ => j_up_cell _ (by omega) _ _) rfl))
        · rw [jgo_some (d := d + 6) rfl ec2, show nI 93 = nI (kR 93) from rfl, jgo_some (d := e + 6) rfl er2]
          dsimp only [Option.toList_some, Option.toList_none, List.cons_append, List.nil_append]
          rw [B24_88_g38, B269_102]
          exact jW2_some (eQ.f hf _ _)
      · obtain ⟨I3, n1, c1, n3, r3, ec2, er2, hf⟩ := want_bad hg ok.1 (Or.inl ⟨now2, nc2, nr2, st3, by omega, h40, h29', h30'⟩) (k := 93) (by decide) (by decide) (d + 5) (e + 5) pa pb (some 38) pw
        rw [jgo_some (d := d + 6) rfl ec2, show nI 93 = nI (kR 93) from rfl, jgo_some (d := e + 6) rfl er2]
        dsimp only [Option.toList_some, Option.toList_none, List.cons_append, List.nil_append]
        rw [B24_88_g38, B269_102]
        exact jW2_some (eQ.f hf _ _)
    · have hf1 := eF.pre st1 hf
      rw [jgo_some (d := d + 6) rfl (expect_cf (d := d + 5) hf1.f.1 _), jgo_some (d := e + 6) rfl (want_rf hf1.f.2 _)]
      dsimp only [Option.toList_some, Option.toList_none, List.cons_append, List.nil_append]
      rw [B24_88_g38, B269_102]
      exact jW2_some (eQ.f hf1 _ _)
  -- a comparison
  rw [if_neg q1, if_pos rfl, if_pos rfl]
  refine jW2_go rfl rfl (Hs _ _ _ _ _ _ _ ok) ?_
  rintro v S w S' ⟨I2, L2, J2, L2', x, y, rfl, rfl, rfl, rfl, hh⟩
  dsimp only [Option.toList_some, Option.toList_none, List.cons_append, List.nil_append]
  rcases hh with ⟨now2, nc2, nr2, n2, k2, lt2, st2, rfl, rfl, hh⟩ | ⟨now1, nc1, now2, nr2, hf⟩
  · obtain ⟨_, _, b3, b4, b5, b6, b7, b8, b9, b10, b11, b12, b13, b14, b15⟩ := id st2
    have tk2 := eSt.tk hg st2 ok.1
    have cc := cmp_c38 (d := d + 7) (pa := pa) (pb := pb) (pw := pw) tk2 b4 b10 D (nI n2) none none
    rcases hh with ⟨h29', hp2⟩ | ⟨h40, h29', h30'⟩
    · rcases cmp_r (e := e + 6) tk2 b4 h29' b14 D' (nI k2) none with ⟨c1, c2⟩ | ⟨c1, op, c2, c3, c4⟩
      · have tq2 := tk2.2.2.2.1 now2 b4
        rw [cc.2 c1, c2, B269_205, if_pos rfl, b14, if_pos (j_in_nI (by omega) (by decide)), nI_clamp (by omega), tq2.2.2.2.1, show (2 : Int32) = nI 2 from rfl, jgo_some (d := d + 6) rfl (fail_c tk2 b4 b9 2), jgo_some (d := e + 6) rfl (fails_rk h29' 2 (P now2))]
        dsimp only [Option.toList_some, Option.toList_none, List.cons_append, List.nil_append]
        rw [B24_154_g38, B269_224]
        exact jW2_some (eQ.f (eSt.fl hg st2 (by decide) (by omega)) _ _)
      · have lt3 : now2 < T := tk2.lt b4 rfl (by unfold cmpK at c1; omega)
        have st3 := eSt.adv hg st2 lt3
        have ok3 : pOk 38 T K P W U Q nm kd nb nl nt nu s cw rho (now2 + 1) nc2 nr2 (j_up I2 27 7 (nI (now2 + 1))) L2 (j_up J2 0 28 (nI (now2 + 1))) L2' := eSt.ok hg ok st3 (by rw [j_up_own, if_neg (by decide)]; exact h29')
        rw [cc.1 c1, c4, B24_155_g38, if_pos b9, B24_172_g38, B269_205, if_neg c2, b10, b14, show nI now2 + 1 = nI (now2 + 1) from nI_add now2 1]
        refine jW2_go rfl rfl (Hs _ _ _ _ _ _ _ ok3) ?_
        rintro v S w S' ⟨I4, L4, J4, L4', x, y, rfl, rfl, rfl, rfl, hh⟩
        dsimp only [Option.toList_some, Option.toList_none, List.cons_append, List.nil_append]
        rw [B24_191_g38, B269_247]
        refine addB38 (d := d + 6) (e := e + 6) (h := h + 1) (b2 := false) (lam := lam) ok 15 (nI (K now2)) (nI n2) x (-1) op (nI k2) y 0 ?_ _ _ _ (fun x' S y' S' hz => by
          obtain ⟨I3, L3, J3, L3', x3, y3, e1, e2, rfl, rfl, _⟩ := id hz
          dsimp only [Option.toList_some, Option.toList_none, List.cons_append, List.nil_append]
          rw [B24_195_g38, B269_252]
          exact jW2_some hz)
        rcases hh with ⟨now5, nc5, nr5, n5, k5, lt5, st5, rfl, rfl, hh⟩ | ⟨now1, nc1, now5, nr5, hf⟩
        · have st6 := eSt.trans st3 st5
          obtain ⟨_, _, e3, e4, e5, e6, e7, e8, _⟩ := id st5
          refine Or.inl ⟨now5, nc5, nr5, by omega, st6, by omega, by omega, ?_⟩
          rcases hh with ⟨h29', hp5⟩ | hh
          · refine Or.inl ⟨h29', pst.upG (Zp := fun C R V => rel C R V nl nt lam h true (lam + (now5 - now - 1)) s rho n2 k2 ∧ rel C R V nl nt lam h true (lam + (now5 - now - 1)) s rho n5 k5) (w := lam + (now5 - now - 1)) (fun C R V c1 c2 c3 => ⟨?_, ?_⟩) (by omega) (by omega) (by omega) (by omega) (by omega) _ _ _ _ _ _ _ _ _ _ (fun C R V c0 c1 c2 c3' c4 r0 r1 r2 r3 v0 z => Or.inr ⟨rfl, Or.inr ⟨c0, by rw [c4, r0]; exact c3, n2, k2, n5, k5, c1, r1, z.1, c2, r2, z.2⟩⟩)⟩
            · refine rel_mono (Nat.le_refl _) (by omega) (hp2 C R V (fun c hc i i1 i2 => ?_) (fun c hc i i1 i2 => ?_) (fun i i1 i2 => ?_))
              · rw [c1 c hc i i1 (by omega), st5.1.2.2.1 c hc i i2, j_up_cell _ (by omega)]
              · rw [c2 c hc i i1 (by omega), st5.2.1.2.1 c hc i i2, j_up_cell _ (by omega)]
              · rw [c3 i i1 (by omega), st5.2.1.2.2.2.2.2.1 i i2]
            · exact rel_mono (Nat.le_refl _) (by omega) (hp5 C R V (fun c hc i i1 i2 => c1 c hc i (by omega) i2) (fun c hc i i1 i2 => c2 c hc i (by omega) i2) (fun i i1 i2 => c3 i (by omega) i2))
          · exact Or.inr hh
        · have q6 := hf.2.2.2.2.2.2.2.2.2.2.2.2.1
          exact Or.inr ⟨now1, nc1, now5, nr5, eF.pre st3 hf, by omega⟩
    · have c1 : ¬ cmpK (K now2) := by rw [h40]; unfold cmpK; omega
      rw [cc.2 c1, B269_112, if_neg (by rw [h29']; decide), show (2 : Int32) = nI 2 from rfl, jgo_some (d := d + 6) rfl (fail_c tk2 b4 b9 2)]
      dsimp only [Option.toList_some, Option.toList_none, List.cons_append, List.nil_append]
      rw [B24_154_g38]
      exact jW2_some (eQ.f (eSt.fl2 hg st2 h29' h30' (by omega)) _ _)
  · have fc := hf.f
    obtain ⟨x', I3, e1, e2⟩ := neg98_cf38 (d := d + 3) (L := L2) (pa := pa) (pb := pb) (pw := pw) fc.1 hf.2.2.2.2.1 (by have := hf.2.2.2.1; omega) hf.2.2.2.2.2.2.2.1 hf.2.2.2.2.2.2.1 D x none none
    obtain ⟨nc3, hf3⟩ := eF.chg hg hf (e2.le hf.2.2.2.2.2.1) hf.2.2.2.2.2.2.2.1
    rw [e1, B269_112, if_neg fc.2]
    exact jW2_some (eQ.f hf3 _ _)
theorem cmp_c49 {d : Nat} {I J : Nat → Nat → Int32} {L L' : Nat → Nat → Int64} {now : Nat} (tk : tkS T K P W U I L J L') (hn : now ≤ T) (h7 : I 27 7 = nI now) (D x : Int32) (o2 o3 : Option Value) : (cmpK (K now) → jv d 24 98 [some (.ref 27), some (.int D), o2, o3] [.int x] (shC, I, L, pX pa pb (some 49) pw) = jv d 24 155 [some (.ref 27), some (.int D), some (.int x), some (.int (nI (K now)))] [] (shC, I, L, pX pa pb (some 49) pw)) ∧ (¬ cmpK (K now) → jv d 24 98 [some (.ref 27), some (.int D), o2, o3] [.int x] (shC, I, L, pX pa pb (some 49) pw) = jgo jTT jMM d 7 [.ref 27, .int 2, .int (nI now)] (shC, I, L, pX pa pb (some 49) pw) (fun v S => jv d 24 154 [some (.ref 27), some (.int D), some (.int x), some (.int (nI (K now)))] (v.toList ++ []) S)) := by
  have q := tk.2.2.2.1 now hn
  have hT := tk.1
  have hk := kR_lt _ q.2.2.2.2
  have ee : ∀ k : Nat, k < 256 → (nI (K now) = nI k ↔ K now = k) := fun k hk' => nI_eq (by omega) (by omega)
  rw [B24_98_g49, h7, if_pos (j_in_nI (by omega) (by decide)), nI_clamp (by omega), q.1]
  rw [show (61 : Int32) = nI 61 from rfl, show (35 : Int32) = nI 35 from rfl, show (60 : Int32) = nI 60 from rfl, show (62 : Int32) = nI 62 from rfl, show (108 : Int32) = nI 108 from rfl, show (103 : Int32) = nI 103 from rfl]
  simp only [ee 61 (by decide), ee 35 (by decide), ee 60 (by decide), ee 62 (by decide), ee 108 (by decide), ee 103 (by decide)]
  constructor
  · intro hc
    by_cases q1 : K now = 61
    · rw [if_pos q1]
    rw [if_neg q1]
    by_cases q2 : K now = 35
    · rw [if_pos q2]
    rw [if_neg q2]
    by_cases q3 : K now = 60
    · rw [if_pos q3]
    rw [if_neg q3]
    by_cases q4 : K now = 62
    · rw [if_pos q4]
    rw [if_neg q4]
    by_cases q5 : K now = 108
    · rw [if_pos q5]
    rw [if_neg q5, if_pos (by unfold cmpK at hc; omega)]
  · intro hc
    unfold cmpK at hc
    rw [if_neg (by omega), if_neg (by omega), if_neg (by omega), if_neg (by omega), if_neg (by omega), if_neg (by omega)]
/-- behind a fault the first reader may still add a node -/
theorem neg98_cf49 {d now nc : Nat} {I : Nat → Nat → Int32} {L : Nat → Nat → Int64} (h0 : I 27 0 ≠ 0) (h7 : I 27 7 = nI now) (hn : now ≤ 1200) (hg : I 49 10 = nI nc) (hc : nc ≤ 1201) (l1 t : Int32) (o2 o3 : Option Value) : ∃ x I', jv (d + 4) 24 98 [some (.ref 27), some (.int l1), o2, o3] [.int t] (shC, I, L, pX pa pb (some 49) pw) = some (some (.int x), (shC, I', L, pX pa pb (some 49) pw)) ∧ cfr 49 nc I I' := by
  have s2 : ∀ (k : Int32), ∃ x I', jv (d + 4) 24 155 [some (.ref 27), some (.int l1), some (.int t), some (.int k)] [] (shC, I, L, pX pa pb (some 49) pw) = some (some (.int x), (shC, I', L, pX pa pb (some 49) pw)) ∧ cfr 49 nc I I' := by
    intro k
    rw [B24_155_g49, if_neg h0, B24_172_g49, Int32_add0, j_up_id, jgo_some (d := d + 3) rfl (sum_cf49 h0 _ _ _ _ _ _)]
    dsimp only [Option.toList_some, Option.toList_none, List.cons_append, List.nil_append]
    rw [B24_191_g49]
    rcases Nat.lt_or_eq_of_le hc with z | z
    · refine ⟨nI nc, _, ?_, adC_cfr z 15 k t (-1) (-1)⟩
      rw [jgo_some (d := d + 3) rfl (add_c49 hg z _ _ _ _ _)]
      dsimp only [Option.toList_some, Option.toList_none, List.cons_append, List.nil_append]
      rw [B24_195_g49]
    · refine ⟨-1, I, ?_, cfr.refl hc hg⟩
      rw [jgo_some (d := d + 3) rfl (add_f49 (by rw [hg, z]) _ _ _ _ _)]
      dsimp only [Option.toList_some, Option.toList_none, List.cons_append, List.nil_append]
      rw [B24_195_g49]
  rw [B24_98_g49, h7, if_pos (j_in_nI (by omega) (by decide)), nI_clamp (by omega)]
  by_cases q1 : I 28 now = 61
  · rw [if_pos q1]; exact s2 _
  rw [if_neg q1]
  by_cases q2 : I 28 now = 35
  · rw [if_pos q2]; exact s2 _
  rw [if_neg q2]
  by_cases q3 : I 28 now = 60
  · rw [if_pos q3]; exact s2 _
  rw [if_neg q3]
  by_cases q4 : I 28 now = 62
  · rw [if_pos q4]; exact s2 _
  rw [if_neg q4]
  by_cases q5 : I 28 now = 108
  · rw [if_pos q5]; exact s2 _
  rw [if_neg q5]
  by_cases q6 : I 28 now = 103
  · rw [if_pos q6]; exact s2 _
  rw [if_neg q6]
  refine ⟨-1, I, ?_, cfr.refl hc hg⟩
  rw [jgo_some (d := d + 3) rfl (fail_cf h0 _ _)]
  dsimp only [Option.toList_some, Option.toList_none, List.cons_append, List.nil_append]
  rw [B24_154_g49]
theorem neg_sim49 {d e h : Nat} {D D' : Int32} (hD : (24 < D ∧ D' = 24) ∨ (¬ 24 < D ∧ D' ≠ 24)) (Hn : ∀ (I : Nat → Nat → Int32) (L : Nat → Nat → Int64) (J : Nat → Nat → Int32) (L' : Nat → Nat → Int64) (now nc nr : Nat), pOk 49 T K P W U Q nm kd nb nl nt nu s cw rho now nc nr I L J L' → jW2 (jv (d + 6) 24 0 [some (.ref 27), some (.int (D + 1)), none, none] [] (shC, I, L, pX pa pb (some 49) pw)) (jv (e + 6) 269 0 [some (.ref 0), some (.int (D' + 1)), none, none] [] (shR, J, L', pR)) (eQ 49 T K P nl nt lam s rho h false now nc nr I L J L' (pX pa pb (some 49) pw))) (Hc : ∀ (I : Nat → Nat → Int32) (L : Nat → Nat → Int64) (J : Nat → Nat → Int32) (L' : Nat → Nat → Int64) (now nc nr : Nat), pOk 49 T K P W U Q nm kd nb nl nt nu s cw rho now nc nr I L J L' → jW2 (jv (d + 6) 21 0 [some (.ref 27), some (.int (D + 1)), none, none, none, none] [] (shC, I, L, pX pa pb (some 49) pw)) (jv (e + 6) 267 0 [some (.ref 0), some (.int (D' + 1)), none] [] (shR, J, L', pR)) (eQ 49 T K P nl nt lam s rho h false now nc nr I L J L' (pX pa pb (some 49) pw))) (Hs : ∀ (I : Nat → Nat → Int32) (L : Nat → Nat → Int64) (J : Nat → Nat → Int32) (L' : Nat → Nat → Int64) (now nc nr : Nat), pOk 49 T K P W U Q nm kd nb nl nt nu s cw rho now nc nr I L J L' → jW2 (jv (d + 6) 25 0 [some (.ref 27), some (.int (D + 1)), none, none, none, none, none] [] (shC, I, L, pX pa pb (some 49) pw)) (jv (e + 6) 270 0 [some (.ref 0), some (.int (D' + 1)), none, none] [] (shR, J, L', pR)) (eQ 49 T K P nl nt lam s rho h true now nc nr I L J L' (pX pa pb (some 49) pw))) {I J : Nat → Nat → Int32} {L L' : Nat → Nat → Int64} {now nc nr : Nat} (ok : pOk 49 T K P W U Q nm kd nb nl nt nu s cw rho now nc nr I L J L') : jW2 (jv (d + 7) 24 0 [some (.ref 27), some (.int D), none, none] [] (shC, I, L, pX pa pb (some 49) pw)) (jv (e + 7) 269 0 [some (.ref 0), some (.int D'), none, none] [] (shR, J, L', pR)) (eQ 49 T K P nl nt lam s rho (h + 1) false now nc nr I L J L' (pX pa pb (some 49) pw)) := by
  have hg : 49 = 38 ∨ 49 = 49 := by decide
  obtain ⟨tk, kw, hN, hC, a5, a6, a7, a8, a9, a10, a11, a12, a13⟩ := id ok
  have hT := ok.1.1
  have tq := tk.2.2.2.1 now a5
  rw [B24_0_g49, B269_0, if_pos a9]
  rcases hD with ⟨dc, dr⟩ | ⟨dc, dr⟩
  · rw [if_pos dc, if_pos dr, a10, a11, if_pos (j_in_nI (by omega) (by decide)), nI_clamp (by omega), tq.2.2.2.1, show (5 : Int32) = nI 5 from rfl, jgo_some (d := d + 6) rfl (fail_c tk a5 a8 5), jgo_some (d := e + 6) rfl (fails_rk a9 5 (P now))]
    dsimp only [Option.toList_some, Option.toList_none, List.cons_append, List.nil_append]
    rw [B24_15_g49, B269_29]
    exact jW2_some (eQ.f (eSt.fl hg ok.st (by decide) (by omega)) _ _)
  rw [if_neg dc, if_neg dr, show (9 : Int32) = nI 9 from rfl, jgo_some (d := d + 6) rfl (nowkey_c (d := d + 5) kw tk a5 a8 a10 (k := 9) (by decide)), jgo_some (d := e + 6) rfl (isw_2011 (e := e + 5) tk a5 a11)]
  dsimp only [Option.toList_some, Option.toList_none, List.cons_append, List.nil_append]
  rw [B24_22_g49, B269_39]
  by_cases q : K now = 97 ∧ W now = kwA.getD 9 []
  · have lt : now < T := tk.lt a5 q.1 (by decide)
    have st1 := eSt.adv hg ok.st lt
    have ok1 : pOk 49 T K P W U Q nm kd nb nl nt nu s cw rho (now + 1) nc nr (j_up I 27 7 (nI (now + 1))) L (j_up J 0 28 (nI (now + 1))) L' := eSt.ok hg ok st1 (by rw [j_up_own, if_neg (by decide)]; exact a9)
    rw [if_pos q, if_neg (by decide), if_neg (by decide), a10, a11, show nI now + 1 = nI (now + 1) from nI_add now 1]
    refine jW2_go rfl rfl (Hn _ _ _ _ _ _ _ ok1) ?_
    intro v S w S' hq
    obtain ⟨I2, L2, J2, L2', x, y, rfl, rfl, rfl, rfl, hh⟩ := id hq
    dsimp only [Option.toList_some, Option.toList_none, List.cons_append, List.nil_append]
    rw [B24_49_g49, B269_62]
    exact unary49 (d := d + 6) (e := e + 6) (b := false) (b2 := false) ok lt 14 22 x y hq (fun C R V w n k n1 k1 c0 c1 r0 r1 z => Or.inr ⟨rfl, Or.inl ⟨c0, r0, n1, k1, c1, r1, z⟩⟩) _ _ _ (fun x' S y' S' hz => by
      obtain ⟨I3, L3, J3, L3', x3, y3, e1, e2, rfl, rfl, _⟩ := id hz
      dsimp only [Option.toList_some, Option.toList_none, List.cons_append, List.nil_append]
      rw [B24_54_g49, B269_68]
      exact jW2_some hz)
  rw [if_neg q, if_pos rfl, if_pos rfl]
  have i91 := is_r (e := e + 6) tk a5 a11 (k := 91) (by decide)
  rw [show nI (kR 91) = (91 : Int32) from rfl] at i91
  rw [jgo_some (d := e + 6) rfl i91, show (91 : Int32) = nI 91 from rfl, jgo_some (d := d + 6) rfl (now_c tk a5 a8 a10 (k := 91) (by decide))]
  dsimp only [Option.toList_some, Option.toList_none, List.cons_append, List.nil_append]
  rw [B24_61_g49, B269_75]
  by_cases q1 : K now = 91
  · have lt : now < T := tk.lt a5 q1 (by decide)
    have st1 := eSt.adv hg ok.st lt
    have ok1 : pOk 49 T K P W U Q nm kd nb nl nt nu s cw rho (now + 1) nc nr (j_up I 27 7 (nI (now + 1))) L (j_up J 0 28 (nI (now + 1))) L' := eSt.ok hg ok st1 (by rw [j_up_own, if_neg (by decide)]; exact a9)
    rw [if_pos q1, if_neg (by decide), if_neg (by decide), a10, a11, show nI now + 1 = nI (now + 1) from nI_add now 1]
    refine jW2_go rfl rfl (Hc _ _ _ _ _ _ _ ok1) ?_
    rintro v S w S' ⟨I2, L2, J2, L2', x, y, rfl, rfl, rfl, rfl, hh⟩
    dsimp only [Option.toList_some, Option.toList_none, List.cons_append, List.nil_append]
    rw [B24_81_g49, B269_95, show (93 : Int32) = nI 93 from rfl]
    rcases hh with ⟨now2, nc2, nr2, n2, k2, lt2, st2, rfl, rfl, hh⟩ | ⟨now1, nc1, now2, nr2, hf⟩
    · have st3 := eSt.trans st1 st2
      have b3 := st3.2.2.2.2.2.2.1
      have b4 := st3.2.2.2.1
      rcases hh with ⟨h29', hp2⟩ | ⟨h40, h29', h30'⟩
      · rcases want_ok hg ok.1 st3 h29' (show nc2 ≤ 1201 by omega) (k := 93) (by decide) (by decide) (d + 5) (e + 5) pa pb (some 49) pw with ⟨q2, ec2, er2, lt3, st4, h294⟩ | ⟨q2, I3, J3, n1, c1, n3, r3, ec2, er2, hf⟩
        · rw [jgo_some (d := d + 6) rfl ec2, show nI 93 = nI (kR 93) from rfl, jgo_some (d := e + 6) rfl er2]
          dsimp only [Option.toList_some, Option.toList_none, List.cons_append, List.nil_append]
          rw [B24_88_g49, B269_102]
          exact jW2_some (eQ.ok (by omega) st4 h294 (hp2.eqs (by omega) (by omega) (fun c _ => j_up_cell _ (by omega) _ _) (fun c _ => j_up_cell _ (by omega) _ _) rfl))
        · rw [jgo_some (d := d + 6) rfl ec2, show nI 93 = nI (kR 93) from rfl, jgo_some (d := e + 6) rfl er2]
          dsimp only [Option.toList_some, Option.toList_none, List.cons_append, List.nil_append]
          rw [B24_88_g49, B269_102]
          exact jW2_some (eQ.f hf _ _)
      · obtain ⟨I3, n1, c1, n3, r3, ec2, er2, hf⟩ := want_bad hg ok.1 (Or.inl ⟨now2, nc2, nr2, st3, by omega, h40, h29', h30'⟩) (k := 93) (by decide) (by decide) (d + 5) (e + 5) pa pb (some 49) pw
        rw [jgo_some (d := d + 6) rfl ec2, show nI 93 = nI (kR 93) from rfl, jgo_some (d := e + 6) rfl er2]
        dsimp only [Option.toList_some, Option.toList_none, List.cons_append, List.nil_append]
        rw [B24_88_g49, B269_102]
        exact jW2_some (eQ.f hf _ _)
    · have hf1 := eF.pre st1 hf
      rw [jgo_some (d := d + 6) rfl (expect_cf (d := d + 5) hf1.f.1 _), jgo_some (d := e + 6) rfl (want_rf hf1.f.2 _)]
      dsimp only [Option.toList_some, Option.toList_none, List.cons_append, List.nil_append]
      rw [B24_88_g49, B269_102]
      exact jW2_some (eQ.f hf1 _ _)
  -- a comparison
  rw [if_neg q1, if_pos rfl, if_pos rfl]
  refine jW2_go rfl rfl (Hs _ _ _ _ _ _ _ ok) ?_
  rintro v S w S' ⟨I2, L2, J2, L2', x, y, rfl, rfl, rfl, rfl, hh⟩
  dsimp only [Option.toList_some, Option.toList_none, List.cons_append, List.nil_append]
  rcases hh with ⟨now2, nc2, nr2, n2, k2, lt2, st2, rfl, rfl, hh⟩ | ⟨now1, nc1, now2, nr2, hf⟩
  · obtain ⟨_, _, b3, b4, b5, b6, b7, b8, b9, b10, b11, b12, b13, b14, b15⟩ := id st2
    have tk2 := eSt.tk hg st2 ok.1
    have cc := cmp_c49 (d := d + 7) (pa := pa) (pb := pb) (pw := pw) tk2 b4 b10 D (nI n2) none none
    rcases hh with ⟨h29', hp2⟩ | ⟨h40, h29', h30'⟩
    · rcases cmp_r (e := e + 6) tk2 b4 h29' b14 D' (nI k2) none with ⟨c1, c2⟩ | ⟨c1, op, c2, c3, c4⟩
      · have tq2 := tk2.2.2.2.1 now2 b4
        rw [cc.2 c1, c2, B269_205, if_pos rfl, b14, if_pos (j_in_nI (by omega) (by decide)), nI_clamp (by omega), tq2.2.2.2.1, show (2 : Int32) = nI 2 from rfl, jgo_some (d := d + 6) rfl (fail_c tk2 b4 b9 2), jgo_some (d := e + 6) rfl (fails_rk h29' 2 (P now2))]
        dsimp only [Option.toList_some, Option.toList_none, List.cons_append, List.nil_append]
        rw [B24_154_g49, B269_224]
        exact jW2_some (eQ.f (eSt.fl hg st2 (by decide) (by omega)) _ _)
      · have lt3 : now2 < T := tk2.lt b4 rfl (by unfold cmpK at c1; omega)
        have st3 := eSt.adv hg st2 lt3
        have ok3 : pOk 49 T K P W U Q nm kd nb nl nt nu s cw rho (now2 + 1) nc2 nr2 (j_up I2 27 7 (nI (now2 + 1))) L2 (j_up J2 0 28 (nI (now2 + 1))) L2' := eSt.ok hg ok st3 (by rw [j_up_own, if_neg (by decide)]; exact h29')
        rw [cc.1 c1, c4, B24_155_g49, if_pos b9, B24_172_g49, B269_205, if_neg c2, b10, b14, show nI now2 + 1 = nI (now2 + 1) from nI_add now2 1]
        refine jW2_go rfl rfl (Hs _ _ _ _ _ _ _ ok3) ?_
        rintro v S w S' ⟨I4, L4, J4, L4', x, y, rfl, rfl, rfl, rfl, hh⟩
        dsimp only [Option.toList_some, Option.toList_none, List.cons_append, List.nil_append]
        rw [B24_191_g49, B269_247]
        refine addB49 (d := d + 6) (e := e + 6) (h := h + 1) (b2 := false) (lam := lam) ok 15 (nI (K now2)) (nI n2) x (-1) op (nI k2) y 0 ?_ _ _ _ (fun x' S y' S' hz => by
          obtain ⟨I3, L3, J3, L3', x3, y3, e1, e2, rfl, rfl, _⟩ := id hz
          dsimp only [Option.toList_some, Option.toList_none, List.cons_append, List.nil_append]
          rw [B24_195_g49, B269_252]
          exact jW2_some hz)
        rcases hh with ⟨now5, nc5, nr5, n5, k5, lt5, st5, rfl, rfl, hh⟩ | ⟨now1, nc1, now5, nr5, hf⟩
        · have st6 := eSt.trans st3 st5
          obtain ⟨_, _, e3, e4, e5, e6, e7, e8, _⟩ := id st5
          refine Or.inl ⟨now5, nc5, nr5, by omega, st6, by omega, by omega, ?_⟩
          rcases hh with ⟨h29', hp5⟩ | hh
          · refine Or.inl ⟨h29', pst.upG (Zp := fun C R V => rel C R V nl nt lam h true (lam + (now5 - now - 1)) s rho n2 k2 ∧ rel C R V nl nt lam h true (lam + (now5 - now - 1)) s rho n5 k5) (w := lam + (now5 - now - 1)) (fun C R V c1 c2 c3 => ⟨?_, ?_⟩) (by omega) (by omega) (by omega) (by omega) (by omega) _ _ _ _ _ _ _ _ _ _ (fun C R V c0 c1 c2 c3' c4 r0 r1 r2 r3 v0 z => Or.inr ⟨rfl, Or.inr ⟨c0, by rw [c4, r0]; exact c3, n2, k2, n5, k5, c1, r1, z.1, c2, r2, z.2⟩⟩)⟩
            · refine rel_mono (Nat.le_refl _) (by omega) (hp2 C R V (fun c hc i i1 i2 => ?_) (fun c hc i i1 i2 => ?_) (fun i i1 i2 => ?_))
              · rw [c1 c hc i i1 (by omega), st5.1.2.2.1 c hc i i2, j_up_cell _ (by omega)]
              · rw [c2 c hc i i1 (by omega), st5.2.1.2.1 c hc i i2, j_up_cell _ (by omega)]
              · rw [c3 i i1 (by omega), st5.2.1.2.2.2.2.2.1 i i2]
            · exact rel_mono (Nat.le_refl _) (by omega) (hp5 C R V (fun c hc i i1 i2 => c1 c hc i (by omega) i2) (fun c hc i i1 i2 => c2 c hc i (by omega) i2) (fun i i1 i2 => c3 i (by omega) i2))
          · exact Or.inr hh
        · have q6 := hf.2.2.2.2.2.2.2.2.2.2.2.2.1
          exact Or.inr ⟨now1, nc1, now5, nr5, eF.pre st3 hf, by omega⟩
    · have c1 : ¬ cmpK (K now2) := by rw [h40]; unfold cmpK; omega
      rw [cc.2 c1, B269_112, if_neg (by rw [h29']; decide), show (2 : Int32) = nI 2 from rfl, jgo_some (d := d + 6) rfl (fail_c tk2 b4 b9 2)]
      dsimp only [Option.toList_some, Option.toList_none, List.cons_append, List.nil_append]
      rw [B24_154_g49]
      exact jW2_some (eQ.f (eSt.fl2 hg st2 h29' h30' (by omega)) _ _)
  · have fc := hf.f
    obtain ⟨x', I3, e1, e2⟩ := neg98_cf49 (d := d + 3) (L := L2) (pa := pa) (pb := pb) (pw := pw) fc.1 hf.2.2.2.2.1 (by have := hf.2.2.2.1; omega) hf.2.2.2.2.2.2.2.1 hf.2.2.2.2.2.2.1 D x none none
    obtain ⟨nc3, hf3⟩ := eF.chg hg hf (e2.le hf.2.2.2.2.2.1) hf.2.2.2.2.2.2.2.1
    rw [e1, B269_112, if_neg fc.2]
    exact jW2_some (eQ.f hf3 _ _)
end PARN
