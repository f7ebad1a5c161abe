/-! RULES: what a word means, in both -/
section PARL
variable {T : Nat} {K P : Nat → Nat} {W : Nat → List Nat} {U : Nat → Nat} {Q : Nat} {nm : Nat → List Nat} {kd nb : Nat → Nat} {nl nt nu s : Nat} {cw : Nat → List Nat} {rho : Nat → Nat} {lam : Nat} {pa pb pw : Option Nat}
theorem nI_prd {i : Nat} : nI (i + 1) - 1 = nI i := nI_sub (b := 1) (by omega)
/-- counters, from the last one down -/
theorem ctr_n {e : Nat} {J : Nat → Nat → Int32} {L' : Nat → Nat → Int64} (x : Int64) (l3 l4 : Int32) : ∀ i, i ≤ 24 → (∀ j, j < i → L' 35 j ≠ x) → jv e 275 8 [some (.ref 0), some (.long x), none, some (.int l3), some (.int l4), some (.int (nI i - 1))] [] (shR, J, L', pR) = jv e 275 54 [some (.ref 0), some (.long x), none, some (.int l3), some (.int l4), some (.int (nI 0))] [] (shR, J, L', pR) := by
  intro i
  induction i with
  | zero => intro _ _; rw [B275_8, if_pos (by decide)]; rfl
  | succ i ih =>
    intro hi hj
    rw [nI_prd, B275_8, if_neg (nI_pos (by omega)), if_pos (j_in_nI (by omega) (by decide)), nI_clamp (by omega), if_neg (fun y => hj i (by omega) ((lcmp_e _ _).mp y)), show nI i + (-1) = nI i - 1 from (Int32.sub_eq_add_neg _ _).symm]
    exact ih (by omega) (fun j h => hj j (by omega))
theorem ctr_y {e : Nat} {J : Nat → Nat → Int32} {L' : Nat → Nat → Int64} (x : Int64) (l3 l4 : Int32) {k : Nat} (hk : L' 35 k = x) : ∀ i, i ≤ 24 → k < i → (∀ j, k < j → j < i → L' 35 j ≠ x) → jv e 275 8 [some (.ref 0), some (.long x), none, some (.int l3), some (.int l4), some (.int (nI i - 1))] [] (shR, J, L', pR) = jgo jTT jMM e 266 [.ref 0, .int 2, .int (J 36 k), .int 0, .int 0, .long 0] (shR, J, L', pR) (fun v S => jv e 275 41 [some (.ref 0), some (.long x), none, some (.int l3), some (.int l4), some (.int (nI k))] (v.toList ++ [.ref 0]) S) := by
  intro i
  induction i with
  | zero => intro _ h; exact absurd h (Nat.not_lt_zero _)
  | succ i ih =>
    intro hi hk' hj
    by_cases z : k = i
    · subst z
      rw [nI_prd, B275_8, if_neg (nI_pos (by omega)), if_pos (j_in_nI (by omega) (by decide)), nI_clamp (by omega), if_pos ((lcmp_e _ _).mpr hk), if_pos (j_in_nI (by omega) (by decide))]
    · rw [nI_prd, B275_8, if_neg (nI_pos (by omega)), if_pos (j_in_nI (by omega) (by decide)), nI_clamp (by omega), if_neg (fun y => hj i (by omega) (by omega) ((lcmp_e _ _).mp y)), show nI i + (-1) = nI i - 1 from (Int32.sub_eq_add_neg _ _).symm]
      exact ih (by omega) (by omega) (fun j h1 h2 => hj j h1 (by omega))
theorem lst_54 {e n k : Nat} {J : Nat → Nat → Int32} {L' : Nat → Nat → Int64} (x : Int64) (l3 l4 : Int32) (hn : J 0 39 = nI n) (hz : n < 41) : ((∀ j, j < n → L' 26 j ≠ x) → jv e 275 54 [some (.ref 0), some (.long x), none, some (.int l3), some (.int l4), some (.int (nI 0))] [] (shR, J, L', pR) = jv e 275 99 [some (.ref 0), some (.long x), none, some (.int l3), some (.int l4), some (.int (nI 0))] [] (shR, J, L', pR)) ∧ (k < n → L' 26 k = x → (∀ j, j < k → L' 26 j ≠ x) → jv e 275 54 [some (.ref 0), some (.long x), none, some (.int l3), some (.int l4), some (.int (nI 0))] [] (shR, J, L', pR) = jgo jTT jMM e 266 [.ref 0, .int 3, .int (nI k), .int 0, .int 0, .long 0] (shR, J, L', pR) (fun v S => jv e 275 86 [some (.ref 0), some (.long x), none, some (.int l3), some (.int l4), some (.int (nI k))] (v.toList ++ [.ref 0]) S)) := by
  have run : ∀ N, N ≤ n → (∀ j, j < N → L' 26 j ≠ x) → jv e 275 54 [some (.ref 0), some (.long x), none, some (.int l3), some (.int l4), some (.int (nI 0))] [] (shR, J, L', pR) = jv e 275 54 [some (.ref 0), some (.long x), none, some (.int l3), some (.int l4), some (.int (nI N))] [] (shR, J, L', pR) := fun N hN hj => j_run (fun i => jv e 275 54 [some (.ref 0), some (.long x), none, some (.int l3), some (.int l4), some (.int (nI i))] [] (shR, J, L', pR)) N (fun i hi => by
    show jv e 275 54 _ _ _ = jv e 275 54 _ _ _
    rw [B275_54, hn, if_pos (nI_lt (by omega) (by omega)), if_pos (j_in_nI (by omega) (by decide)), nI_clamp (by omega), if_neg (fun y => hj i hi ((lcmp_e _ _).mp y)), show nI i + 1 = nI (i + 1) from nI_add i 1])
  refine ⟨fun hj => ?_, fun hk hx hj => ?_⟩
  · rw [run n (Nat.le_refl _) hj, B275_54, hn, if_neg (nI_nlt (Nat.le_refl _) (by omega))]
    try rfl
  · rw [run k (by omega) hj, B275_54, hn, if_pos (nI_lt hk (by omega)), if_pos (j_in_nI (by omega) (by decide)), nI_clamp (by omega), if_pos ((lcmp_e _ _).mpr hx)]
theorem lst_99 {e n k : Nat} {J : Nat → Nat → Int32} {L' : Nat → Nat → Int64} (x : Int64) (l3 l4 : Int32) (hn : J 0 46 = nI n) (hz : n < 9) : ((∀ j, j < n → L' 28 j ≠ x) → jv e 275 99 [some (.ref 0), some (.long x), none, some (.int l3), some (.int l4), some (.int (nI 0))] [] (shR, J, L', pR) = jgo jTT jMM e 251 [.ref 2009, .long x] (shR, J, L', pR) (fun v S => jv e 275 149 [some (.ref 0), some (.long x), none, some (.int l3), some (.int l4), some (.int (nI n))] (v.toList ++ []) S)) ∧ (k < n → L' 28 k = x → (∀ j, j < k → L' 28 j ≠ x) → jv e 275 99 [some (.ref 0), some (.long x), none, some (.int l3), some (.int l4), some (.int (nI 0))] [] (shR, J, L', pR) = jgo jTT jMM e 277 [.ref 0, .int l4] (shR, J, L', pR) (fun v S => jv e 275 130 [some (.ref 0), some (.long x), none, some (.int l3), some (.int l4), some (.int (nI k))] (v.toList ++ [.int (nI k), .int 4, .ref 0]) S)) := by
  have run : ∀ N, N ≤ n → (∀ j, j < N → L' 28 j ≠ x) → jv e 275 99 [some (.ref 0), some (.long x), none, some (.int l3), some (.int l4), some (.int (nI 0))] [] (shR, J, L', pR) = jv e 275 99 [some (.ref 0), some (.long x), none, some (.int l3), some (.int l4), some (.int (nI N))] [] (shR, J, L', pR) := fun N hN hj => j_run (fun i => jv e 275 99 [some (.ref 0), some (.long x), none, some (.int l3), some (.int l4), some (.int (nI i))] [] (shR, J, L', pR)) N (fun i hi => by
    show jv e 275 99 _ _ _ = jv e 275 99 _ _ _
    rw [B275_99, hn, if_pos (nI_lt (by omega) (by omega)), if_pos (j_in_nI (by omega) (by decide)), nI_clamp (by omega), if_neg (fun y => hj i hi ((lcmp_e _ _).mp y)), show nI i + 1 = nI (i + 1) from nI_add i 1])
  refine ⟨fun hj => ?_, fun hk hx hj => ?_⟩
  · rw [run n (Nat.le_refl _) hj, B275_99, hn, if_neg (nI_nlt (Nat.le_refl _) (by omega))]
    try rfl
  · rw [run k (by omega) hj, B275_99, hn, if_pos (nI_lt hk (by omega)), if_pos (j_in_nI (by omega) (by decide)), nI_clamp (by omega), if_pos ((lcmp_e _ _).mpr hx)]
theorem mean_sim38 {d e h : Nat} {D D' : Int32} (H : ∀ (I : Nat → Nat → Int32) (L : Nat → Nat → Int64) (J : Nat → Nat → Int32) (L' : Nat → Nat → Int64) (now nc nr : Nat), pOk 38 T K P W U Q nm kd nb nl nt nu s cw rho now nc nr I L J L' → jW2 (jv (d + 5) 25 0 [some (.ref 27), some (.int (D + 1)), none, none, none, none, none] [] (shC, I, L, pX pa pb (some 38) pw)) (jv (e + 5) 270 0 [some (.ref 0), some (.int (D' + 1)), none, none] [] (shR, J, L', pR)) (eQ 38 T K P nl nt lam s rho h true now nc nr I L J L' (pX pa pb (some 38) pw))) {I J : Nat → Nat → Int32} {L L' : Nat → Nat → Int64} {now nc nr : Nat} (ok : pOk 38 T K P W U Q nm kd nb nl nt nu s cw rho now nc nr I L J L') (hK : K now = 97) : jW2 (jv (d + 7) 31 0 [some (.ref 27), some (.int D), none, none, none, none, none, none] [] (shC, I, L, pX pa pb (some 38) pw)) (jv (e + 7) 275 0 [some (.ref 0), some (.long (lgN (nR (W now)))), none, some (.int (nI (P now))), some (.int D'), none] [] (shR, j_up J 0 28 (nI (now + 1)), L', pR)) (eQ 38 T K P nl nt lam s rho (h + 1) true now nc nr I L J L' (pX pa pb (some 38) pw)) := by
  have hg : 38 = 38 ∨ 38 = 49 := by decide
  obtain ⟨tk, kw, hN, hC, a5, a6, a7, a8, a9, a10, a11, a12, a13⟩ := id ok
  have hT := tk.1
  have hs24 := hC.1
  have hQ72 := hN.1
  have lt := tk.lt a5 hK (by decide)
  obtain ⟨w1, w2, w3⟩ := tk.2.2.2.2.2.1 now lt hK
  have st1 := eSt.adv hg ok.st lt
  have ok1 : pOk 38 T K P W U Q nm kd nb nl nt nu s cw rho (now + 1) nc nr (j_up I 27 7 (nI (now + 1))) L (j_up J 0 28 (nI (now + 1))) L' := eSt.ok hg ok st1 (by rw [j_up_own, if_neg (by decide)]; exact a9)
  obtain ⟨rS, eS, fS⟩ := fnd_34 (d := d + 6) (pa := pa) (pb := pb) (pu := some 38) (pw := pw) hC w1 none
  obtain ⟨rN, eN, fN⟩ := fnd_31 (d := d + 6) (pa := pa) (pb := pb) (pu := some 38) (pw := pw) hN w1 none
  obtain ⟨rB, eB, fB⟩ := fnd_36 (d := d + 6) (I := I) (pa := pa) (pb := pb) (pu := some 38) (pw := pw) kw w1 none
  obtain ⟨rC, eC, fC⟩ := fnd_37 (d := d + 6) (I := I) (pa := pa) (pb := pb) (pu := some 38) (pw := pw) kw w1 none
  have gS := fS.neg (by have := hC.1; omega)
  have gN := fN.neg (by have := hN.1; omega)
  have j52 : j_up J 0 28 (nI (now + 1)) 0 52 = nI s := by rw [j_up_own, if_neg (by decide)]; exact hC.2.2.1
  have cs : jv (d + 7) 31 0 [some (.ref 27), some (.int D), none, none, none, none, none, none] [] (shC, I, L, pX pa pb (some 38) pw) = jv (d + 7) 31 60 [some (.ref 27), some (.int D), some (.long (lgN (nC (W now)))), none, some (.int rS), some (.int rN), some (.int rB), none] [.int rC] (shC, I, L, pX pa pb (some 38) pw) := by
    rw [B31_0_g38, a10, if_pos (j_in_nI (by omega) (by decide)), nI_clamp (by omega), w2, jgo_some (d := d + 6) rfl eS]
    dsimp only [Option.toList_some, Option.toList_none, List.cons_append, List.nil_append]
    rw [B31_22_g38, jgo_some (d := d + 6) rfl eN]
    dsimp only [Option.toList_some, Option.toList_none, List.cons_append, List.nil_append]
    rw [B31_36_g38, jgo_some (d := d + 6) rfl eB]
    dsimp only [Option.toList_some, Option.toList_none, List.cons_append, List.nil_append]
    rw [B31_48_g38, jgo_some (d := d + 6) rfl eC]
    rfl
  rw [cs, B31_60_g38, B275_0, j52, a10, show nI now + 1 = nI (now + 1) from nI_add now 1]
  -- counters
  rcases fS with ⟨i, i1, i2, i3, i4⟩ | ⟨i1, i2⟩
  · obtain ⟨u1, u2, u3, u4, u5⟩ := hC.2.2.2.1 i i1
    have rr := ctr_y (e := e + 7) (J := j_up J 0 28 (nI (now + 1))) (L' := L') (lgN (nR (W now))) (nI (P now)) D' (k := i) (by rw [u3, i2]) s hC.1 i1 (fun j j1 j2 y => by
      obtain ⟨v1, v2, v3, _⟩ := hC.2.2.2.1 j j2
      rw [v3] at y
      have := hC.2.2.2.2 j i j2 i1 (((wR_inj v1 w1).mp y).trans i2.symm)
      omega)
    rw [rr, if_neg (by rw [i4]; exact nI_pos (by omega)), i4]
    obtain ⟨J3, k1, k2⟩ := alone_sim38 (e := e + 5) (h := h) (lam := lam) (pa := pa) (pb := pb) (pw := pw) ok lt 1 (nI i) 2 (nI (rho i)) (fun C R V c0 c4 r0 r1 => Or.inr (Or.inl ⟨c0, r0, i, i1, c4, r1, u5.1⟩))
    rw [jgo_some (d := d + 6) rfl (add_c38 (d := d + 6) (I := j_up I 27 7 (nI (now + 1))) (L := L) (pa := pa) (pb := pb) (pu := some 38) (pw := pw) (by rw [j_up_cell _ (by decide)]; exact a12) (show nc < 1201 by omega) 1 (nI i) (-1) (-1) (-1)), jgo_some (d := e + 6) rfl (node_r (e := e + 6) (J := j_up J 0 28 (nI (now + 1))) (L' := L') (by rw [j_up_own, if_neg (by decide)]; exact a13) (show nr < 1400 by omega) 2 (j_up J 0 28 (nI (now + 1)) 36 i) 0 0 0), show j_up J 0 28 (nI (now + 1)) 36 i = nI (rho i) by rw [j_up_cell _ (by decide)]; exact u4]
    dsimp only [Option.toList_some, Option.toList_none, List.cons_append, List.nil_append]
    rw [B31_90_g38, B275_41, jgo_some (d := e + 6) rfl k1]
    dsimp only [Option.toList_some, Option.toList_none, List.cons_append, List.nil_append]
    rw [B275_44]
    exact jW2_some k2
  have rr := ctr_n (e := e + 7) (J := j_up J 0 28 (nI (now + 1))) (L' := L') (lgN (nR (W now))) (nI (P now)) D' s hC.1 (fun j j1 y => by
      obtain ⟨v1, v2, v3, _⟩ := hC.2.2.2.1 j j1
      rw [v3] at y
      exact i1 j j1 ((wR_inj v1 w1).mp y))
  rw [rr, if_pos (by rw [i2]; decide)]
  obtain ⟨hQ, h14, l1, l2, l3, j39, j46, j49, nq, n2, n3, n14, ninj⟩ := id hN
  have k39 : j_up J 0 28 (nI (now + 1)) 0 39 = nI nl := by rw [j_up_own, if_neg (by decide)]; exact j39
  have k46 : j_up J 0 28 (nI (now + 1)) 0 46 = nI nt := by rw [j_up_own, if_neg (by decide)]; exact j46
  -- where no let and no table has that name
  have rest : (rN < 0 ∨ ∃ q, q < Q ∧ rN = nI q ∧ kd q ≠ 2 ∧ kd q ≠ 3) → (∀ j, j < nl → L' 26 j ≠ lgN (nR (W now))) → (∀ j, j < nt → L' 28 j ≠ lgN (nR (W now))) → jW2 (jv (d + 7) 31 136 [some (.ref 27), some (.int D), some (.long (lgN (nC (W now)))), none, some (.int rS), some (.int rN), some (.int rB), some (.int rC)] [] (shC, I, L, pX pa pb (some 38) pw)) (jv (e + 7) 275 54 [some (.ref 0), some (.long (lgN (nR (W now)))), none, some (.int (nI (P now))), some (.int D'), some (.int (nI 0))] [] (shR, j_up J 0 28 (nI (now + 1)), L', pR)) (eQ 38 T K P nl nt lam s rho (h + 1) true now nc nr I L J L' (pX pa pb (some 38) pw)) := by
    intro hq nol not'
    have c1 : jv (d + 7) 31 136 [some (.ref 27), some (.int D), some (.long (lgN (nC (W now)))), none, some (.int rS), some (.int rN), some (.int rB), some (.int rC)] [] (shC, I, L, pX pa pb (some 38) pw) = jv (d + 7) 31 185 [some (.ref 27), some (.int D), some (.long (lgN (nC (W now)))), none, some (.int rS), some (.int rN), some (.int rB), some (.int rC)] [] (shC, I, L, pX pa pb (some 38) pw) := by
      rw [B31_136_g38]
      rcases hq with z | ⟨q, q1, q2, q3, q4⟩
      · rw [if_pos z]
      · rw [if_neg (by rw [q2]; exact nI_pos (by omega)), q2, if_pos (j_in_nI (by omega) (by decide)), nI_clamp (by omega), (nq q q1).2.2.1, if_neg (show ¬ nI (kd q) = 3 from fun y => q4 ((nI_eq (b := 3) (by rcases (nq q q1).2.2.2.2 with u | u | u <;> omega) (by decide)).mp y))]
    obtain ⟨rB', eB', fB'⟩ := among_2009 (e := e + 6) (J := j_up J 0 28 (nI (now + 1))) (L' := L') w1 none none none none
    have hB : rB' = rB := fB'.uniq fB (fun _ _ => Iff.rfl)
    rw [hB] at eB'
    rw [c1, (lst_54 (k := 0) (lgN (nR (W now))) (nI (P now)) D' k39 (by omega)).1 nol, (lst_99 (k := 0) (lgN (nR (W now))) (nI (P now)) D' k46 (by omega)).1 not', jgo_some (d := e + 6) rfl eB']
    dsimp only [Option.toList_some, Option.toList_none, List.cons_append, List.nil_append]
    rw [B31_185_g38, B275_149, a10, show nI now + 1 = nI (now + 1) from nI_add now 1]
    rcases fB with ⟨i, b1, b2, b3, b4⟩ | ⟨b1, b2⟩
    · -- a plain word
      have ng : ¬ rB < 0 := by rw [b4]; exact nI_pos (by omega)
      rw [if_neg ng, if_neg ng, b4]
      obtain ⟨J3, k1, k2⟩ := alone_sim38 (e := e + 5) (h := h) (lam := lam) (pa := pa) (pb := pb) (pw := pw) ok lt 4 (nI i) 5 (nI i) (fun C R V c0 c4 r0 r1 => Or.inr (Or.inr (Or.inr (Or.inr (Or.inl ⟨c0, r0, i, b1, c4, r1⟩)))))
      rw [jgo_some (d := d + 6) rfl (add_c38 (d := d + 6) (I := j_up I 27 7 (nI (now + 1))) (L := L) (pa := pa) (pb := pb) (pu := some 38) (pw := pw) (by rw [j_up_cell _ (by decide)]; exact a12) (show nc < 1201 by omega) 4 (nI i) (-1) (-1) (-1)), jgo_some (d := e + 6) rfl (node_r (e := e + 6) (J := j_up J 0 28 (nI (now + 1))) (L' := L') (by rw [j_up_own, if_neg (by decide)]; exact a13) (show nr < 1400 by omega) 5 (nI i) 0 0 0)]
      dsimp only [Option.toList_some, Option.toList_none, List.cons_append, List.nil_append]
      rw [B31_213_g38, B275_167, jgo_some (d := e + 6) rfl k1]
      dsimp only [Option.toList_some, Option.toList_none, List.cons_append, List.nil_append]
      rw [B275_170]
      exact jW2_some k2
    have ng : rB < 0 := by rw [b2]; decide
    obtain ⟨rC', eC', fC'⟩ := among_2010 (e := e + 6) (J := j_up J 0 28 (nI (now + 1))) (L' := L') w1 none none none none
    have hC' : rC' = rC := fC'.uniq fC (fun _ _ => Iff.rfl)
    rw [hC'] at eC'
    rw [if_pos ng, if_pos ng, jgo_some (d := e + 6) rfl eC']
    dsimp only [Option.toList_some, Option.toList_none, List.cons_append, List.nil_append]
    rw [B275_178]
    rcases fC with ⟨i, b1, b2, b3, b4⟩ | ⟨b1, b2⟩
    · have ng : ¬ rC < 0 := by rw [b4]; exact nI_pos (by omega)
      rw [if_neg ng, if_neg ng]
      refine jW2_go rfl rfl (brack_sim38 H ok1) ?_
      intro v S w S' hq
      obtain ⟨I2, L2, J2, L2', x, y, rfl, rfl, rfl, rfl, hh⟩ := id hq
      dsimp only [Option.toList_some, Option.toList_none, List.cons_append, List.nil_append]
      rw [B31_244_g38, B275_196]
      exact ofB38 (d := d + 6) (e := e + 6) ok lt 5 (13 + rC) 6 rC x y hq (fun C R V w n k n1 k1 c0 c1 c4 r0 r1 r2 z => Or.inr (Or.inr (Or.inr (Or.inr (Or.inr (Or.inl ⟨c0, r0, i, n1, k1, b1, by rw [c4, b4]; exact nI_add 13 i, by rw [r1, b4], c1, r2, z⟩)))))) _ _ _ (fun x' S y' S' hz => by
        obtain ⟨I3, L3, J3, L3', x3, y3, e1, e2, rfl, rfl, _⟩ := id hz
        dsimp only [Option.toList_some, Option.toList_none, List.cons_append, List.nil_append]
        rw [B31_249_g38, B275_201]
        exact jW2_some hz)
    · have ng : rC < 0 := by rw [b2]; decide
      rw [if_pos ng, if_pos ng, show (3 : Int32) = nI 3 from rfl, jgo_some (d := d + 6) rfl (fail_c tk a5 a8 3), jgo_some (d := e + 6) rfl (fails_rk (J := j_up J 0 28 (nI (now + 1))) (by rw [j_up_own, if_neg (by decide)]; exact a9) 3 (P now))]
      dsimp only [Option.toList_some, Option.toList_none, List.cons_append, List.nil_append]
      rw [B31_259_g38, B275_208]
      obtain ⟨c1, c2, c3, c4, c5⟩ := eSt.c hg ok.st 3 (P now) (by decide) (by omega)
      refine jW2_some (eQ.f (now1 := now) (nc1 := nc) (now2 := now + 1) (nr2 := nr) ⟨c1, flR_fr st1.2.1 3 (P now), ⟨3, P now, by decide, by decide, c2, c3, ?_, ?_⟩, a5, c4, Nat.le_refl _, by omega, c5, by omega, by omega, ?_, Nat.le_refl _, by omega, ?_⟩ _ _)
      · unfold flR; rw [j_up_own, if_neg (by decide), j_up_own, if_pos rfl]
      · unfold flR; rw [j_up_own, if_pos rfl]
      · unfold flR; rw [j_up_own, if_neg (by decide), j_up_own, if_neg (by decide), j_up_own, if_pos rfl]
      · unfold flR; rw [j_up_own, if_neg (by decide), j_up_own, if_neg (by decide), j_up_own, if_neg (by decide)]; exact a13
  rcases fN with ⟨q, q1, q2, q3, q4⟩ | ⟨q1, q2⟩
  · obtain ⟨u1, u2, u3, u4, u5⟩ := nq q q1
    have nlet : kd q ≠ 2 → ∀ j, j < nl → L' 26 j ≠ lgN (nR (W now)) := fun hk j hj y => by
      obtain ⟨r, r1, r2, r3⟩ := n2 j hj
      obtain ⟨v1, _, _, _, v5⟩ := nq r r1
      rcases v5 with v | v | v
      · rw [r3] at v; rw [v.2.2] at y
        have := ninj r q r1 q1 (((wR_inj v1 w1).mp y).trans q2.symm)
        rw [this] at r2; exact hk r2
      · omega
      · omega
    have ntab : kd q ≠ 3 → ∀ j, j < nt → L' 28 j ≠ lgN (nR (W now)) := fun hk j hj y => by
      obtain ⟨r, r1, r2, r3⟩ := n3 j hj
      obtain ⟨v1, _, _, _, v5⟩ := nq r r1
      rcases v5 with v | v | v
      · omega
      · rw [r3] at v; rw [v.2.2] at y
        have := ninj r q r1 q1 (((wR_inj v1 w1).mp y).trans q2.symm)
        rw [this] at r2; exact hk r2
      · omega
    have ng : ¬ rN < 0 := by rw [q4]; exact nI_pos (by omega)
    rw [if_neg ng]
    rcases u5 with v | v | v
    · -- a let
      have rr := (lst_54 (e := e + 7) (L' := L') (k := nb q) (lgN (nR (W now))) (nI (P now)) D' k39 (by omega)).2 v.2.1 (by rw [v.2.2, q2]) (fun j hj y => by
        obtain ⟨r, r1, r2, r3⟩ := n2 j (by omega)
        obtain ⟨z1, _, _, _, z5⟩ := nq r r1
        rcases z5 with z | z | z
        · rw [r3] at z; rw [z.2.2] at y
          have := ninj r q r1 q1 (((wR_inj z1 w1).mp y).trans q2.symm)
          rw [this] at r3; omega
        · omega
        · omega)
      rw [rr, q4, if_pos (j_in_nI (by omega) (by decide)), nI_clamp (by omega), u3, if_pos (show nI (kd q) = 2 by rw [v.1]; rfl), if_pos (j_in_nI (by omega) (by decide)), show j_up I 27 7 (nI (now + 1)) 33 q = nI (nb q) by rw [j_up_cell _ (by decide)]; exact u4]
      obtain ⟨J3, k1, k2⟩ := alone_sim38 (e := e + 5) (h := h) (lam := lam) (pa := pa) (pb := pb) (pw := pw) ok lt 2 (nI (nb q)) 3 (nI (nb q)) (fun C R V c0 c4 r0 r1 => Or.inr (Or.inr (Or.inl ⟨c0, r0, nb q, v.2.1, c4, r1, Nat.le_refl _⟩)))
      rw [jgo_some (d := d + 6) rfl (add_c38 (d := d + 6) (I := j_up I 27 7 (nI (now + 1))) (L := L) (pa := pa) (pb := pb) (pu := some 38) (pw := pw) (by rw [j_up_cell _ (by decide)]; exact a12) (show nc < 1201 by omega) 2 (nI (nb q)) (-1) (-1) (-1)), jgo_some (d := e + 6) rfl (node_r (e := e + 6) (J := j_up J 0 28 (nI (now + 1))) (L' := L') (by rw [j_up_own, if_neg (by decide)]; exact a13) (show nr < 1400 by omega) 3 (nI (nb q)) 0 0 0)]
      dsimp only [Option.toList_some, Option.toList_none, List.cons_append, List.nil_append]
      rw [B31_135_g38, B275_86, jgo_some (d := e + 6) rfl k1]
      dsimp only [Option.toList_some, Option.toList_none, List.cons_append, List.nil_append]
      rw [B275_89]
      exact jW2_some k2
    · -- a table
      have rr := (lst_99 (e := e + 7) (L' := L') (k := nb q) (lgN (nR (W now))) (nI (P now)) D' k46 (by omega)).2 v.2.1 (by rw [v.2.2, q2]) (fun j hj y => by
        obtain ⟨r, r1, r2, r3⟩ := n3 j (by omega)
        obtain ⟨z1, _, _, _, z5⟩ := nq r r1
        rcases z5 with z | z | z
        · omega
        · rw [r3] at z; rw [z.2.2] at y
          have := ninj r q r1 q1 (((wR_inj z1 w1).mp y).trans q2.symm)
          rw [this] at r3; omega
        · omega)
      rw [(lst_54 (k := 0) (lgN (nR (W now))) (nI (P now)) D' k39 (by omega)).1 (nlet (by omega)), rr, q4, if_pos (j_in_nI (by omega) (by decide)), nI_clamp (by omega), u3, if_neg (show ¬ nI (kd q) = 2 from fun y => by have := (nI_eq (b := 2) (by omega) (by decide)).mp y; omega), B31_136_g38, if_neg (nI_pos (by omega)), if_pos (j_in_nI (by omega) (by decide)), nI_clamp (by omega), u3, if_pos (show nI (kd q) = 3 by rw [v.1]; rfl), if_pos (j_in_nI (by omega) (by decide)), a10, show nI now + 1 = nI (now + 1) from nI_add now 1, show j_up I 27 7 (nI (now + 1)) 33 q = nI (nb q) by rw [j_up_cell _ (by decide)]; exact u4]
      refine jW2_go rfl rfl (brack_sim38 H ok1) ?_
      intro v' S w S' hq
      obtain ⟨I2, L2, J2, L2', x, y, rfl, rfl, rfl, rfl, hh⟩ := id hq
      dsimp only [Option.toList_some, Option.toList_none, List.cons_append, List.nil_append]
      rw [B31_179_g38, B275_130]
      exact ofB38 (d := d + 6) (e := e + 6) ok lt 3 (nI (nb q)) 4 (nI (nb q)) x y hq (fun C R V w n k n1 k1 c0 c1 c4 r0 r1 r2 z => Or.inr (Or.inr (Or.inr (Or.inl ⟨c0, r0, nb q, n1, k1, v.2.1, c4, r1, c1, r2, z⟩)))) _ _ _ (fun x' S y' S' hz => by
        obtain ⟨I3, L3, J3, L3', x3, y3, e1, e2, rfl, rfl, _⟩ := id hz
        dsimp only [Option.toList_some, Option.toList_none, List.cons_append, List.nil_append]
        rw [B31_184_g38, B275_135]
        exact jW2_some hz)
    · -- a rule
      have r1 := rest (Or.inr ⟨q, q1, q4, by omega, by omega⟩) (nlet (by omega)) (ntab (by omega))
      rw [q4] at r1
      rw [q4, if_pos (j_in_nI (by omega) (by decide)), nI_clamp (by omega), u3, if_neg (show ¬ nI (kd q) = 2 from fun y => by have := (nI_eq (b := 2) (by omega) (by decide)).mp y; omega)]
      exact r1
  · have ng : rN < 0 := by rw [q2]; decide
    rw [if_pos ng]
    refine rest (Or.inl ng) (fun j hj y => ?_) (fun j hj y => ?_)
    · obtain ⟨r, r1, r2, r3⟩ := n2 j hj
      obtain ⟨v1, _, _, _, v5⟩ := nq r r1
      rcases v5 with v | v | v
      · rw [r3] at v; rw [v.2.2] at y; exact q1 r r1 ((wR_inj v1 w1).mp y)
      · omega
      · omega
    · obtain ⟨r, r1, r2, r3⟩ := n3 j hj
      obtain ⟨v1, _, _, _, v5⟩ := nq r r1
      rcases v5 with v | v | v
      · omega
      · rw [r3] at v; rw [v.2.2] at y; exact q1 r r1 ((wR_inj v1 w1).mp y)
      · omega
theorem mean_sim49 {d e h : Nat} {D D' : Int32} (H : ∀ (I : Nat → Nat → Int32) (L : Nat → Nat → Int64) (J : Nat → Nat → Int32) (L' : Nat → Nat → Int64) (now nc nr : Nat), pOk 49 T K P W U Q nm kd nb nl nt nu s cw rho now nc nr I L J L' → jW2 (jv (d + 5) 25 0 [some (.ref 27), some (.int (D + 1)), none, none, none, none, none] [] (shC, I, L, pX pa pb (some 49) pw)) (jv (e + 5) 270 0 [some (.ref 0), some (.int (D' + 1)), none, none] [] (shR, J, L', pR)) (eQ 49 T K P nl nt lam s rho h true now nc nr I L J L' (pX pa pb (some 49) pw))) {I J : Nat → Nat → Int32} {L L' : Nat → Nat → Int64} {now nc nr : Nat} (ok : pOk 49 T K P W U Q nm kd nb nl nt nu s cw rho now nc nr I L J L') (hK : K now = 97) : jW2 (jv (d + 7) 31 0 [some (.ref 27), some (.int D), none, none, none, none, none, none] [] (shC, I, L, pX pa pb (some 49) pw)) (jv (e + 7) 275 0 [some (.ref 0), some (.long (lgN (nR (W now)))), none, some (.int (nI (P now))), some (.int D'), none] [] (shR, j_up J 0 28 (nI (now + 1)), L', pR)) (eQ 49 T K P nl nt lam s rho (h + 1) true now nc nr I L J L' (pX pa pb (some 49) pw)) := by
  have hg : 49 = 38 ∨ 49 = 49 := by decide
  obtain ⟨tk, kw, hN, hC, a5, a6, a7, a8, a9, a10, a11, a12, a13⟩ := id ok
  have hT := tk.1
  have hs24 := hC.1
  have hQ72 := hN.1
  have lt := tk.lt a5 hK (by decide)
  obtain ⟨w1, w2, w3⟩ := tk.2.2.2.2.2.1 now lt hK
  have st1 := eSt.adv hg ok.st lt
  have ok1 : pOk 49 T K P W U Q nm kd nb nl nt nu s cw rho (now + 1) nc nr (j_up I 27 7 (nI (now + 1))) L (j_up J 0 28 (nI (now + 1))) L' := eSt.ok hg ok st1 (by rw [j_up_own, if_neg (by decide)]; exact a9)
  obtain ⟨rS, eS, fS⟩ := fnd_34 (d := d + 6) (pa := pa) (pb := pb) (pu := some 49) (pw := pw) hC w1 none
  obtain ⟨rN, eN, fN⟩ := fnd_31 (d := d + 6) (pa := pa) (pb := pb) (pu := some 49) (pw := pw) hN w1 none
  obtain ⟨rB, eB, fB⟩ := fnd_36 (d := d + 6) (I := I) (pa := pa) (pb := pb) (pu := some 49) (pw := pw) kw w1 none
  obtain ⟨rC, eC, fC⟩ := fnd_37 (d := d + 6) (I := I) (pa := pa) (pb := pb) (pu := some 49) (pw := pw) kw w1 none
  have gS := fS.neg (by have := hC.1; omega)
  have gN := fN.neg (by have := hN.1; omega)
  have j52 : j_up J 0 28 (nI (now + 1)) 0 52 = nI s := by rw [j_up_own, if_neg (by decide)]; exact hC.2.2.1
  have cs : jv (d + 7) 31 0 [some (.ref 27), some (.int D), none, none, none, none, none, none] [] (shC, I, L, pX pa pb (some 49) pw) = jv (d + 7) 31 60 [some (.ref 27), some (.int D), some (.long (lgN (nC (W now)))), none, some (.int rS), some (.int rN), some (.int rB), none] [.int rC] (shC, I, L, pX pa pb (some 49) pw) := by
    rw [B31_0_g49, a10, if_pos (j_in_nI (by omega) (by decide)), nI_clamp (by omega), w2, jgo_some (d := d + 6) rfl eS]
    dsimp only [Option.toList_some, Option.toList_none, List.cons_append, List.nil_append]
    rw [B31_22_g49, jgo_some (d := d + 6) rfl eN]
    dsimp only [Option.toList_some, Option.toList_none, List.cons_append, List.nil_append]
    rw [B31_36_g49, jgo_some (d := d + 6) rfl eB]
    dsimp only [Option.toList_some, Option.toList_none, List.cons_append, List.nil_append]
    rw [B31_48_g49, jgo_some (d := d + 6) rfl eC]
    rfl
  rw [cs, B31_60_g49, B275_0, j52, a10, show nI now + 1 = nI (now + 1) from nI_add now 1]
  -- counters
  rcases fS with ⟨i, i1, i2, i3, i4⟩ | ⟨i1, i2⟩
  · obtain ⟨u1, u2, u3, u4, u5⟩ := hC.2.2.2.1 i i1
    have rr := ctr_y (e := e + 7) (J := j_up J 0 28 (nI (now + 1))) (L' := L') (lgN (nR (W now))) (nI (P now)) D' (k := i) (by rw [u3, i2]) s hC.1 i1 (fun j j1 j2 y => by
      obtain ⟨v1, v2, v3, _⟩ := hC.2.2.2.1 j j2
      rw [v3] at y
      have := hC.2.2.2.2 j i j2 i1 (((wR_inj v1 w1).mp y).trans i2.symm)
      omega)
    rw [rr, if_neg (by rw [i4]; exact nI_pos (by omega)), i4]
    obtain ⟨J3, k1, k2⟩ := alone_sim49 (e := e + 5) (h := h) (lam := lam) (pa := pa) (pb := pb) (pw := pw) ok lt 1 (nI i) 2 (nI (rho i)) (fun C R V c0 c4 r0 r1 => Or.inr (Or.inl ⟨c0, r0, i, i1, c4, r1, u5.1⟩))
    rw [jgo_some (d := d + 6) rfl (add_c49 (d := d + 6) (I := j_up I 27 7 (nI (now + 1))) (L := L) (pa := pa) (pb := pb) (pu := some 49) (pw := pw) (by rw [j_up_cell _ (by decide)]; exact a12) (show nc < 1201 by omega) 1 (nI i) (-1) (-1) (-1)), jgo_some (d := e + 6) rfl (node_r (e := e + 6) (J := j_up J 0 28 (nI (now + 1))) (L' := L') (by rw [j_up_own, if_neg (by decide)]; exact a13) (show nr < 1400 by omega) 2 (j_up J 0 28 (nI (now + 1)) 36 i) 0 0 0), show j_up J 0 28 (nI (now + 1)) 36 i = nI (rho i) by rw [j_up_cell _ (by decide)]; exact u4]
    dsimp only [Option.toList_some, Option.toList_none, List.cons_append, List.nil_append]
    rw [B31_90_g49, B275_41, jgo_some (d := e + 6) rfl k1]
    dsimp only [Option.toList_some, Option.toList_none, List.cons_append, List.nil_append]
    rw [B275_44]
    exact jW2_some k2
  have rr := ctr_n (e := e + 7) (J := j_up J 0 28 (nI (now + 1))) (L' := L') (lgN (nR (W now))) (nI (P now)) D' s hC.1 (fun j j1 y => by
      obtain ⟨v1, v2, v3, _⟩ := hC.2.2.2.1 j j1
      rw [v3] at y
      exact i1 j j1 ((wR_inj v1 w1).mp y))
  rw [rr, if_pos (by rw [i2]; decide)]
  obtain ⟨hQ, h14, l1, l2, l3, j39, j46, j49, nq, n2, n3, n14, ninj⟩ := id hN
  have k39 : j_up J 0 28 (nI (now + 1)) 0 39 = nI nl := by rw [j_up_own, if_neg (by decide)]; exact j39
  have k46 : j_up J 0 28 (nI (now + 1)) 0 46 = nI nt := by rw [j_up_own, if_neg (by decide)]; exact j46
  -- where no let and no table has that name
  have rest : (rN < 0 ∨ ∃ q, q < Q ∧ rN = nI q ∧ kd q ≠ 2 ∧ kd q ≠ 3) → (∀ j, j < nl → L' 26 j ≠ lgN (nR (W now))) → (∀ j, j < nt → L' 28 j ≠ lgN (nR (W now))) → jW2 (jv (d + 7) 31 136 [some (.ref 27), some (.int D), some (.long (lgN (nC (W now)))), none, some (.int rS), some (.int rN), some (.int rB), some (.int rC)] [] (shC, I, L, pX pa pb (some 49) pw)) (jv (e + 7) 275 54 [some (.ref 0), some (.long (lgN (nR (W now)))), none, some (.int (nI (P now))), some (.int D'), some (.int (nI 0))] [] (shR, j_up J 0 28 (nI (now + 1)), L', pR)) (eQ 49 T K P nl nt lam s rho (h + 1) true now nc nr I L J L' (pX pa pb (some 49) pw)) := by
    intro hq nol not'
    have c1 : jv (d + 7) 31 136 [some (.ref 27), some (.int D), some (.long (lgN (nC (W now)))), none, some (.int rS), some (.int rN), some (.int rB), some (.int rC)] [] (shC, I, L, pX pa pb (some 49) pw) = jv (d + 7) 31 185 [some (.ref 27), some (.int D), some (.long (lgN (nC (W now)))), none, some (.int rS), some (.int rN), some (.int rB), some (.int rC)] [] (shC, I, L, pX pa pb (some 49) pw) := by
      rw [B31_136_g49]
      rcases hq with z | ⟨q, q1, q2, q3, q4⟩
      · rw [if_pos z]
      · rw [if_neg (by rw [q2]; exact nI_pos (by omega)), q2, if_pos (j_in_nI (by omega) (by decide)), nI_clamp (by omega), (nq q q1).2.2.1, if_neg (show ¬ nI (kd q) = 3 from fun y => q4 ((nI_eq (b := 3) (by rcases (nq q q1).2.2.2.2 with u | u | u <;> omega) (by decide)).mp y))]
    obtain ⟨rB', eB', fB'⟩ := among_2009 (e := e + 6) (J := j_up J 0 28 (nI (now + 1))) (L' := L') w1 none none none none
    have hB : rB' = rB := fB'.uniq fB (fun _ _ => Iff.rfl)
    rw [hB] at eB'
    rw [c1, (lst_54 (k := 0) (lgN (nR (W now))) (nI (P now)) D' k39 (by omega)).1 nol, (lst_99 (k := 0) (lgN (nR (W now))) (nI (P now)) D' k46 (by omega)).1 not', jgo_some (d := e + 6) rfl eB']
    dsimp only [Option.toList_some, Option.toList_none, List.cons_append, List.nil_append]
    rw [B31_185_g49, B275_149, a10, show nI now + 1 = nI (now + 1) from nI_add now 1]
    rcases fB with ⟨i, b1, b2, b3, b4⟩ | ⟨b1, b2⟩
    · -- a plain word
      have ng : ¬ rB < 0 := by rw [b4]; exact nI_pos (by omega)
      rw [if_neg ng, if_neg ng, b4]
      obtain ⟨J3, k1, k2⟩ := alone_sim49 (e := e + 5) (h := h) (lam := lam) (pa := pa) (pb := pb) (pw := pw) ok lt 4 (nI i) 5 (nI i) (fun C R V c0 c4 r0 r1 => Or.inr (Or.inr (Or.inr (Or.inr (Or.inl ⟨c0, r0, i, b1, c4, r1⟩)))))
      rw [jgo_some (d := d + 6) rfl (add_c49 (d := d + 6) (I := j_up I 27 7 (nI (now + 1))) (L := L) (pa := pa) (pb := pb) (pu := some 49) (pw := pw) (by rw [j_up_cell _ (by decide)]; exact a12) (show nc < 1201 by omega) 4 (nI i) (-1) (-1) (-1)), jgo_some (d := e + 6) rfl (node_r (e := e + 6) (J := j_up J 0 28 (nI (now + 1))) (L' := L') (by rw [j_up_own, if_neg (by decide)]; exact a13) (show nr < 1400 by omega) 5 (nI i) 0 0 0)]
      dsimp only [Option.toList_some, Option.toList_none, List.cons_append, List.nil_append]
      rw [B31_213_g49, B275_167, jgo_some (d := e + 6) rfl k1]
      dsimp only [Option.toList_some, Option.toList_none, List.cons_append, List.nil_append]
      rw [B275_170]
      exact jW2_some k2
    have ng : rB < 0 := by rw [b2]; decide
    obtain ⟨rC', eC', fC'⟩ := among_2010 (e := e + 6) (J := j_up J 0 28 (nI (now + 1))) (L' := L') w1 none none none none
    have hC' : rC' = rC := fC'.uniq fC (fun _ _ => Iff.rfl)
    rw [hC'] at eC'
    rw [if_pos ng, if_pos ng, jgo_some (d := e + 6) rfl eC']
    dsimp only [Option.toList_some, Option.toList_none, List.cons_append, List.nil_append]
    rw [B275_178]
    rcases fC with ⟨i, b1, b2, b3, b4⟩ | ⟨b1, b2⟩
    · have ng : ¬ rC < 0 := by rw [b4]; exact nI_pos (by omega)
      rw [if_neg ng, if_neg ng]
      refine jW2_go rfl rfl (brack_sim49 H ok1) ?_
      intro v S w S' hq
      obtain ⟨I2, L2, J2, L2', x, y, rfl, rfl, rfl, rfl, hh⟩ := id hq
      dsimp only [Option.toList_some, Option.toList_none, List.cons_append, List.nil_append]
      rw [B31_244_g49, B275_196]
      exact ofB49 (d := d + 6) (e := e + 6) ok lt 5 (13 + rC) 6 rC x y hq (fun C R V w n k n1 k1 c0 c1 c4 r0 r1 r2 z => Or.inr (Or.inr (Or.inr (Or.inr (Or.inr (Or.inl ⟨c0, r0, i, n1, k1, b1, by rw [c4, b4]; exact nI_add 13 i, by rw [r1, b4], c1, r2, z⟩)))))) _ _ _ (fun x' S y' S' hz => by
        obtain ⟨I3, L3, J3, L3', x3, y3, e1, e2, rfl, rfl, _⟩ := id hz
        dsimp only [Option.toList_some, Option.toList_none, List.cons_append, List.nil_append]
        rw [B31_249_g49, B275_201]
        exact jW2_some hz)
    · have ng : rC < 0 := by rw [b2]; decide
      rw [if_pos ng, if_pos ng, show (3 : Int32) = nI 3 from rfl, jgo_some (d := d + 6) rfl (fail_c tk a5 a8 3), jgo_some (d := e + 6) rfl (fails_rk (J := j_up J 0 28 (nI (now + 1))) (by rw [j_up_own, if_neg (by decide)]; exact a9) 3 (P now))]
      dsimp only [Option.toList_some, Option.toList_none, List.cons_append, List.nil_append]
      rw [B31_259_g49, B275_208]
      obtain ⟨c1, c2, c3, c4, c5⟩ := eSt.c hg ok.st 3 (P now) (by decide) (by omega)
      refine jW2_some (eQ.f (now1 := now) (nc1 := nc) (now2 := now + 1) (nr2 := nr) ⟨c1, flR_fr st1.2.1 3 (P now), ⟨3, P now, by decide, by decide, c2, c3, ?_, ?_⟩, a5, c4, Nat.le_refl _, by omega, c5, by omega, by omega, ?_, Nat.le_refl _, by omega, ?_⟩ _ _)
      · unfold flR; rw [j_up_own, if_neg (by decide), j_up_own, if_pos rfl]
      · unfold flR; rw [j_up_own, if_pos rfl]
      · unfold flR; rw [j_up_own, if_neg (by decide), j_up_own, if_neg (by decide), j_up_own, if_pos rfl]
      · unfold flR; rw [j_up_own, if_neg (by decide), j_up_own, if_neg (by decide), j_up_own, if_neg (by decide)]; exact a13
  rcases fN with ⟨q, q1, q2, q3, q4⟩ | ⟨q1, q2⟩
  · obtain ⟨u1, u2, u3, u4, u5⟩ := nq q q1
    have nlet : kd q ≠ 2 → ∀ j, j < nl → L' 26 j ≠ lgN (nR (W now)) := fun hk j hj y => by
      obtain ⟨r, r1, r2, r3⟩ := n2 j hj
      obtain ⟨v1, _, _, _, v5⟩ := nq r r1
      rcases v5 with v | v | v
      · rw [r3] at v; rw [v.2.2] at y
        have := ninj r q r1 q1 (((wR_inj v1 w1).mp y).trans q2.symm)
        rw [this] at r2; exact hk r2
      · omega
      · omega
    have ntab : kd q ≠ 3 → ∀ j, j < nt → L' 28 j ≠ lgN (nR (W now)) := fun hk j hj y => by
      obtain ⟨r, r1, r2, r3⟩ := n3 j hj
      obtain ⟨v1, _, _, _, v5⟩ := nq r r1
      rcases v5 with v | v | v
      · omega
      · rw [r3] at v; rw [v.2.2] at y
        have := ninj r q r1 q1 (((wR_inj v1 w1).mp y).trans q2.symm)
        rw [this] at r2; exact hk r2
      · omega
    have ng : ¬ rN < 0 := by rw [q4]; exact nI_pos (by omega)
    rw [if_neg ng]
    rcases u5 with v | v | v
    · -- a let
      have rr := (lst_54 (e := e + 7) (L' := L') (k := nb q) (lgN (nR (W now))) (nI (P now)) D' k39 (by omega)).2 v.2.1 (by rw [v.2.2, q2]) (fun j hj y => by
        obtain ⟨r, r1, r2, r3⟩ := n2 j (by omega)
        obtain ⟨z1, _, _, _, z5⟩ := nq r r1
        rcases z5 with z | z | z
        · rw [r3] at z; rw [z.2.2] at y
          have := ninj r q r1 q1 (((wR_inj z1 w1).mp y).trans q2.symm)
          rw [this] at r3; omega
        · omega
        · omega)
      rw [rr, q4, if_pos (j_in_nI (by omega) (by decide)), nI_clamp (by omega), u3, if_pos (show nI (kd q) = 2 by rw [v.1]; rfl), if_pos (j_in_nI (by omega) (by decide)), show j_up I 27 7 (nI (now + 1)) 33 q = nI (nb q) by rw [j_up_cell _ (by decide)]; exact u4]
      obtain ⟨J3, k1, k2⟩ := alone_sim49 (e := e + 5) (h := h) (lam := lam) (pa := pa) (pb := pb) (pw := pw) ok lt 2 (nI (nb q)) 3 (nI (nb q)) (fun C R V c0 c4 r0 r1 => Or.inr (Or.inr (Or.inl ⟨c0, r0, nb q, v.2.1, c4, r1, Nat.le_refl _⟩)))
      rw [jgo_some (d := d + 6) rfl (add_c49 (d := d + 6) (I := j_up I 27 7 (nI (now + 1))) (L := L) (pa := pa) (pb := pb) (pu := some 49) (pw := pw) (by rw [j_up_cell _ (by decide)]; exact a12) (show nc < 1201 by omega) 2 (nI (nb q)) (-1) (-1) (-1)), jgo_some (d := e + 6) rfl (node_r (e := e + 6) (J := j_up J 0 28 (nI (now + 1))) (L' := L') (by rw [j_up_own, if_neg (by decide)]; exact a13) (show nr < 1400 by omega) 3 (nI (nb q)) 0 0 0)]
      dsimp only [Option.toList_some, Option.toList_none, List.cons_append, List.nil_append]
      rw [B31_135_g49, B275_86, jgo_some (d := e + 6) rfl k1]
      dsimp only [Option.toList_some, Option.toList_none, List.cons_append, List.nil_append]
      rw [B275_89]
      exact jW2_some k2
    · -- a table
      have rr := (lst_99 (e := e + 7) (L' := L') (k := nb q) (lgN (nR (W now))) (nI (P now)) D' k46 (by omega)).2 v.2.1 (by rw [v.2.2, q2]) (fun j hj y => by
        obtain ⟨r, r1, r2, r3⟩ := n3 j (by omega)
        obtain ⟨z1, _, _, _, z5⟩ := nq r r1
        rcases z5 with z | z | z
        · omega
        · rw [r3] at z; rw [z.2.2] at y
          have := ninj r q r1 q1 (((wR_inj z1 w1).mp y).trans q2.symm)
          rw [this] at r3; omega
        · omega)
      rw [(lst_54 (k := 0) (lgN (nR (W now))) (nI (P now)) D' k39 (by omega)).1 (nlet (by omega)), rr, q4, if_pos (j_in_nI (by omega) (by decide)), nI_clamp (by omega), u3, if_neg (show ¬ nI (kd q) = 2 from fun y => by have := (nI_eq (b := 2) (by omega) (by decide)).mp y; omega), B31_136_g49, if_neg (nI_pos (by omega)), if_pos (j_in_nI (by omega) (by decide)), nI_clamp (by omega), u3, if_pos (show nI (kd q) = 3 by rw [v.1]; rfl), if_pos (j_in_nI (by omega) (by decide)), a10, show nI now + 1 = nI (now + 1) from nI_add now 1, show j_up I 27 7 (nI (now + 1)) 33 q = nI (nb q) by rw [j_up_cell _ (by decide)]; exact u4]
      refine jW2_go rfl rfl (brack_sim49 H ok1) ?_
      intro v' S w S' hq
      obtain ⟨I2, L2, J2, L2', x, y, rfl, rfl, rfl, rfl, hh⟩ := id hq
      dsimp only [Option.toList_some, Option.toList_none, List.cons_append, List.nil_append]
      rw [B31_179_g49, B275_130]
      exact ofB49 (d := d + 6) (e := e + 6) ok lt 3 (nI (nb q)) 4 (nI (nb q)) x y hq (fun C R V w n k n1 k1 c0 c1 c4 r0 r1 r2 z => Or.inr (Or.inr (Or.inr (Or.inl ⟨c0, r0, nb q, n1, k1, v.2.1, c4, r1, c1, r2, z⟩)))) _ _ _ (fun x' S y' S' hz => by
        obtain ⟨I3, L3, J3, L3', x3, y3, e1, e2, rfl, rfl, _⟩ := id hz
        dsimp only [Option.toList_some, Option.toList_none, List.cons_append, List.nil_append]
        rw [B31_184_g49, B275_135]
        exact jW2_some hz)
    · -- a rule
      have r1 := rest (Or.inr ⟨q, q1, q4, by omega, by omega⟩) (nlet (by omega)) (ntab (by omega))
      rw [q4] at r1
      rw [q4, if_pos (j_in_nI (by omega) (by decide)), nI_clamp (by omega), u3, if_neg (show ¬ nI (kd q) = 2 from fun y => by have := (nI_eq (b := 2) (by omega) (by decide)).mp y; omega)]
      exact r1
  · have ng : rN < 0 := by rw [q2]; decide
    rw [if_pos ng]
    refine rest (Or.inl ng) (fun j hj y => ?_) (fun j hj y => ?_)
    · obtain ⟨r, r1, r2, r3⟩ := n2 j hj
      obtain ⟨v1, _, _, _, v5⟩ := nq r r1
      rcases v5 with v | v | v
      · rw [r3] at v; rw [v.2.2] at y; exact q1 r r1 ((wR_inj v1 w1).mp y)
      · omega
      · omega
    · obtain ⟨r, r1, r2, r3⟩ := n3 j hj
      obtain ⟨v1, _, _, _, v5⟩ := nq r r1
      rcases v5 with v | v | v
      · omega
      · rw [r3] at v; rw [v.2.2] at y; exact q1 r r1 ((wR_inj v1 w1).mp y)
      · omega
end PARL
