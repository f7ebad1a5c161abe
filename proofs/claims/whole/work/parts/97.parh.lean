/-! RULES: sums and products as chains -/
section PARH
variable {T : Nat} {K P : Nat → Nat} {W : Nat → List Nat} {U : Nat → Nat} {Q : Nat} {nm : Nat → List Nat} {kd nb : Nat → Nat} {nl nt nu s : Nat} {cw : Nat → List Nat} {rho : Nat → Nat} {lam : Nat} {pa pb pw : Option Nat}
/-- no operator stands here: the loops end -/
theorem sum_x38 {d e i now' : Nat} {D D' x y last : Int32} {o3 o5 o6 : Option Value} {I1 J1 : Nat → Nat → Int32} {L1 L1' : Nat → Nat → Int64} (hc : ∀ κ, κ = 43 ∨ κ = 45 → jv d 8 0 [some (.ref 27), some (.int (nI κ))] [] (shC, I1, L1, pX pa pb (some 38) pw) = some (some (.int 0), (shC, I1, L1, pX pa pb (some 38) pw))) (hr : J1 0 29 ≠ 0 ∨ ∀ κ, κ = 43 ∨ κ = 45 → jv e 258 0 [some (.ref 0), some (.int (nI κ))] [] (shR, J1, L1', pR) = some (some (.int 0), (shR, J1, L1', pR))) : jv (d + 1) 25 11 [some (.ref 27), some (.int D), some (.int x), some (.int last), some (.int (nI i)), o5, o6] [] (shC, I1, L1, pX pa pb (some 38) pw) = some (some (.int x), (shC, I1, L1, pX pa pb (some 38) pw)) ∧ jv (e + 1) 270 6 [some (.ref 0), some (.int D'), some (.int y), o3] [] (shR, J1, L1', pR) = some (some (.int y), (shR, J1, L1', pR)) := by
  constructor
  · rw [B25_11_g38]
    by_cases q : nI i < I1 27 6
    · rw [if_pos q, show (43 : Int32) = nI 43 from rfl, jgo_some (d := d) rfl (hc 43 (Or.inl rfl))]
      dsimp only [Option.toList_some, Option.toList_none, List.cons_append, List.nil_append]
      rw [B25_26_g38, if_pos rfl, show (45 : Int32) = nI 45 from rfl, jgo_some (d := d) rfl (hc 45 (Or.inr rfl))]
      dsimp only [Option.toList_some, Option.toList_none, List.cons_append, List.nil_append]
      rw [B25_35_g38, if_pos rfl, B25_97_g38]
    · rw [if_neg q, B25_97_g38]
  · rw [B270_6]
    by_cases z : J1 0 29 = 0
    · rcases hr with q | q
      · exact absurd z q
      · rw [if_pos z, show (43 : Int32) = nI 43 from rfl, jgo_some (d := e) rfl (q 43 (Or.inl rfl))]
        dsimp only [Option.toList_some, Option.toList_none, List.cons_append, List.nil_append]
        rw [B270_19, if_pos rfl, show (45 : Int32) = nI 45 from rfl, jgo_some (d := e) rfl (q 45 (Or.inr rfl))]
        dsimp only [Option.toList_some, Option.toList_none, List.cons_append, List.nil_append]
        rw [B270_28, if_pos rfl, B270_75]
    · rw [if_neg z, B270_75]
theorem sum_e38 {d e h : Nat} {D D' : Int32} {I J : Nat → Nat → Int32} {L L' : Nat → Nat → Int64} {now nc nr : Nat} (ok : pOk 38 T K P W U Q nm kd nb nl nt nu s cw rho now nc nr I L J L') {now' nc' nr' n k i : Nat} {last : Int32} {I1 J1 : Nat → Nat → Int32} {L1 L1' : Nat → Nat → Int64} {o3 o5 o6 : Option Value} (st : eSt 38 T s now nc nr I L J L' now' nc' nr' I1 L1 J1 L1') (lt : now < now') (h29 : J1 0 29 = 0) (hp : (last = -1 ∧ pst 38 I1 J1 L1' nl nt lam h true (lam + (now' - now)) s rho nc nc' nr nr' n k) ∨ ∃ la, last = nI la ∧ chP 38 I1 J1 L1' nl nt lam h true (lam + (now' - now)) s rho 7 nc nc' nr nr' n k la) (h1 : K now' ≠ 43) (h2 : K now' ≠ 45) : jW2 (jv (d + 1) 25 11 [some (.ref 27), some (.int D), some (.int (nI n)), some (.int last), some (.int (nI i)), o5, o6] [] (shC, I1, L1, pX pa pb (some 38) pw)) (jv (e + 1) 270 6 [some (.ref 0), some (.int D'), some (.int (nI k)), o3] [] (shR, J1, L1', pR)) (eQ 38 T K P nl nt lam s rho (h + 1) true now nc nr I L J L' (pX pa pb (some 38) pw)) := by
  have tk := eSt.tk (by decide) st ok.1
  have np : pst 38 I1 J1 L1' nl nt lam (h + 1) true (lam + (now' - now)) s rho nc nc' nr nr' n k := by
    rcases hp with ⟨_, z⟩ | ⟨la, _, z⟩
    · exact z.frame (by omega) (Nat.le_refl _) (Nat.le_refl _) (Nat.le_refl _) (Nat.le_refl _) (Nat.le_refl _) (fun _ _ _ _ _ => rfl) (fun _ _ _ _ _ => rfl) (fun _ _ _ => rfl)
    · exact z.done (Or.inl ⟨rfl, rfl⟩)
  have xx := sum_x38 (d := d) (e := e) (i := i) (now' := now') (D := D) (D' := D') (x := nI n) (y := nI k) (last := last) (o3 := o3) (o5 := o5) (o6 := o6) (I1 := I1) (J1 := J1) (L1 := L1) (L1' := L1') (pa := pa) (pb := pb) (pw := pw)
    (fun κ hκ => by rw [now_c tk st.2.2.2.1 st.2.2.2.2.2.2.2.2.1 st.2.2.2.2.2.2.2.2.2.1 (by omega), if_neg (by rcases hκ with z | z <;> rw [z] <;> assumption)])
    (Or.inr (fun κ hκ => by
      have := is_r (e := e) tk st.2.2.2.1 st.2.2.2.2.2.2.2.2.2.2.2.2.2.1 (k := κ) (by rcases hκ with z | z <;> rw [z] <;> decide)
      rw [if_neg (by rcases hκ with z | z <;> rw [z] <;> assumption), show kR κ = κ by rcases hκ with z | z <;> rw [z] <;> decide] at this
      exact this))
  rw [xx.1, xx.2]
  exact jW2_some (eQ.ok lt st h29 np)
theorem sum_l38 {d e h : Nat} {D D' : Int32} (H : ∀ (I : Nat → Nat → Int32) (L : Nat → Nat → Int64) (J : Nat → Nat → Int32) (L' : Nat → Nat → Int64) (now nc nr : Nat), pOk 38 T K P W U Q nm kd nb nl nt nu s cw rho now nc nr I L J L' → jW2 (jv d 26 0 [some (.ref 27), some (.int D), none, none, none, none, none] [] (shC, I, L, pX pa pb (some 38) pw)) (jv e 271 0 [some (.ref 0), some (.int D'), none, none] [] (shR, J, L', pR)) (eQ 38 T K P nl nt lam s rho h true now nc nr I L J L' (pX pa pb (some 38) pw))) {I J : Nat → Nat → Int32} {L L' : Nat → Nat → Int64} {now nc nr : Nat} (ok : pOk 38 T K P W U Q nm kd nb nl nt nu s cw rho now nc nr I L J L') : ∀ (r now' nc' nr' n k i : Nat) (last : Int32) (I1 J1 : Nat → Nat → Int32) (L1 L1' : Nat → Nat → Int64) (o3 o5 o6 : Option Value), T - now' < r → eSt 38 T s now nc nr I L J L' now' nc' nr' I1 L1 J1 L1' → now < now' → J1 0 29 = 0 → i ≤ now' → ((last = -1 ∧ pst 38 I1 J1 L1' nl nt lam h true (lam + (now' - now)) s rho nc nc' nr nr' n k) ∨ ∃ la, last = nI la ∧ chP 38 I1 J1 L1' nl nt lam h true (lam + (now' - now)) s rho 7 nc nc' nr nr' n k la) → jW2 (jv (d + 1) 25 11 [some (.ref 27), some (.int D), some (.int (nI n)), some (.int last), some (.int (nI i)), o5, o6] [] (shC, I1, L1, pX pa pb (some 38) pw)) (jv (e + 1) 270 6 [some (.ref 0), some (.int D'), some (.int (nI k)), o3] [] (shR, J1, L1', pR)) (eQ 38 T K P nl nt lam s rho (h + 1) true now nc nr I L J L' (pX pa pb (some 38) pw)) := by
  intro r
  induction r with
  | zero => intro now' nc' nr' n k i last I1 J1 L1 L1' o3 o5 o6 hr; exact absurd hr (Nat.not_lt_zero _)
  | succ r ih =>
    intro now' nc' nr' n k i last I1 J1 L1 L1' o3 o5 o6 hr st lt h29 hi hp
    by_cases h12 : K now' = 43 ∨ K now' = 45
    case neg => exact sum_e38 ok st lt h29 hp (fun z => h12 (Or.inl z)) (fun z => h12 (Or.inr z))
    have hg : 38 = 38 ∨ 38 = 49 := by decide
    have tk := eSt.tk hg st ok.1
    have hT := ok.1.1
    have ltT : now' < T := by rcases h12 with z | z <;> exact tk.lt st.2.2.2.1 z (by decide)
    obtain ⟨b1, b2, b3, b4, b5, b6, b7, b8, b9, b10, b11, b12, b13, b14, b15⟩ := id st
    have hnc := ok.2.2.2.2.2.1
    have hnr := ok.2.2.2.2.2.2.1
    have kq := tk.2.2.2.1 now' b4
    -- the first program's step
    have cs : jv (d + 1) 25 11 [some (.ref 27), some (.int D), some (.int (nI n)), some (.int last), some (.int (nI i)), o5, o6] [] (shC, I1, L1, pX pa pb (some 38) pw) = jgo jTT jMM (d + 1) 26 [.ref 27, .int D] (shC, j_up I1 27 7 (nI (now' + 1)), L1, pX pa pb (some 38) pw) (fun v S => jv (d + 1) 25 73 [some (.ref 27), some (.int D), some (.int (nI n)), some (.int last), some (.int (nI i)), some (.int (nI (K now'))), o6] (v.toList ++ [.int (nI n), .int (nI (K now')), .int 7, .ref 38]) S) := by
      have s38 : jv (d + 1) 25 38 [some (.ref 27), some (.int D), some (.int (nI n)), some (.int last), some (.int (nI i)), o5, o6] [] (shC, I1, L1, pX pa pb (some 38) pw) = jgo jTT jMM (d + 1) 26 [.ref 27, .int D] (shC, j_up I1 27 7 (nI (now' + 1)), L1, pX pa pb (some 38) pw) (fun v S => jv (d + 1) 25 73 [some (.ref 27), some (.int D), some (.int (nI n)), some (.int last), some (.int (nI i)), some (.int (nI (K now'))), o6] (v.toList ++ [.int (nI n), .int (nI (K now')), .int 7, .ref 38]) S) := by
        rw [B25_38_g38, b10, if_pos (j_in_nI (by omega) (by decide)), nI_clamp (by omega), kq.1, show nI now' + 1 = nI (now' + 1) from nI_add now' 1]
      rw [B25_11_g38, tk.2.1, if_pos (nI_lt (by omega) (by omega)), show (43 : Int32) = nI 43 from rfl, jgo_some (d := d) rfl (now_c tk b4 b9 b10 (k := 43) (by decide))]
      dsimp only [Option.toList_some, Option.toList_none, List.cons_append, List.nil_append]
      rw [B25_26_g38]
      by_cases z : K now' = 43
      · rw [if_pos z, if_neg (by decide), s38]
      · rw [if_neg z, if_pos rfl, show (45 : Int32) = nI 45 from rfl, jgo_some (d := d) rfl (now_c tk b4 b9 b10 (k := 45) (by decide)), if_pos (h12.resolve_left z)]
        dsimp only [Option.toList_some, Option.toList_none, List.cons_append, List.nil_append]
        rw [B25_35_g38, if_neg (by decide), s38]
    have rs : ∃ wh : Int32, opC 7 (nI (K now')) wh ∧ jv (e + 1) 270 6 [some (.ref 0), some (.int D'), some (.int (nI k)), o3] [] (shR, J1, L1', pR) = jgo jTT jMM (e + 1) 271 [.ref 0, .int D'] (shR, j_up J1 0 28 (nI (now' + 1)), L1', pR) (fun v S => jv (e + 1) 270 66 [some (.ref 0), some (.int D'), some (.int (nI k)), some (.int wh)] (v.toList ++ [.int (nI k), .int wh, .ref 0]) S) := by
      have i1 := is_r (e := e) tk b4 b14 (k := 43) (by decide)
      have i2 := is_r (e := e) tk b4 b14 (k := 45) (by decide)
      rw [show nI (kR 43) = (43 : Int32) from rfl] at i1
      rw [show nI (kR 45) = (45 : Int32) from rfl] at i2
      by_cases z : K now' = 43
      · rw [if_pos z] at i1
        refine ⟨12, ?_, ?_⟩
        · rw [z]; unfold opC; decide
        · rw [B270_6, if_pos h29, jgo_some (d := e) rfl i1]
          dsimp only [Option.toList_some, Option.toList_none, List.cons_append, List.nil_append]
          rw [B270_19, if_neg (by decide), B270_31, jgo_some (d := e) rfl i1]
          dsimp only [Option.toList_some, Option.toList_none, List.cons_append, List.nil_append]
          rw [B270_37, if_neg (by decide), B270_47, b14, show nI now' + 1 = nI (now' + 1) from nI_add now' 1]
      · have z2 := h12.resolve_left z
        rw [if_neg z] at i1
        rw [if_pos z2] at i2
        refine ⟨13, ?_, ?_⟩
        · rw [z2]; unfold opC; decide
        · rw [B270_6, if_pos h29, jgo_some (d := e) rfl i1]
          dsimp only [Option.toList_some, Option.toList_none, List.cons_append, List.nil_append]
          rw [B270_19, if_pos rfl, jgo_some (d := e) rfl i2]
          dsimp only [Option.toList_some, Option.toList_none, List.cons_append, List.nil_append]
          rw [B270_28, if_neg (by decide), B270_31, jgo_some (d := e) rfl i1]
          dsimp only [Option.toList_some, Option.toList_none, List.cons_append, List.nil_append]
          rw [B270_37, if_pos rfl, B270_47, b14, show nI now' + 1 = nI (now' + 1) from nI_add now' 1]
    obtain ⟨wh, hwh, rs⟩ := rs
    rw [cs, rs]
    have st1 := eSt.adv hg st ltT
    have ok1 : pOk 38 T K P W U Q nm kd nb nl nt nu s cw rho (now' + 1) nc' nr' (j_up I1 27 7 (nI (now' + 1))) L1 (j_up J1 0 28 (nI (now' + 1))) L1' := eSt.ok hg ok st1 (by rw [j_up_own, if_neg (by decide), h29])
    refine jW2_go rfl rfl (H _ _ _ _ _ _ _ ok1) ?_
    rintro v S w S' ⟨I2, L2, J2, L2', x, y, rfl, rfl, rfl, rfl, hh⟩
    dsimp only [Option.toList_some, Option.toList_none, List.cons_append, List.nil_append]
    rw [B25_73_g38, B270_66]
    rcases hh with ⟨now2, nc2, nr2, n2, k2, lt2, st2, rfl, rfl, hh⟩ | ⟨now1, nc1, now2, nr2, hf⟩
    · -- no fault in the first
      obtain ⟨_, _, a3, a4, a5, a6, a7, a8, a9, a10, a11, a12, a13, a14, a15⟩ := id st2
      have st3 := eSt.trans st1 st2
      have st4 := eSt.add hg st3 (by omega) (by omega) 7 (nI (K now')) (nI n) (nI n2) (-1) wh (nI k) (nI k2) 0 0
      have c94 := add_c38 (d := d) (L := L2) (pa := pa) (pb := pb) (pu := some 38) (pw := pw) a12 (show nc2 < 1201 by omega) 7 (nI (K now')) (nI n) (nI n2) (-1)
      have r66 := node_r (e := e) (L' := L2') a15 (show nr2 < 1400 by omega) wh (nI k) (nI k2) 0 0
      rw [jgo_some (d := d) rfl c94, jgo_some (d := e) rfl r66]
      dsimp only [Option.toList_some, Option.toList_none, List.cons_append, List.nil_append]
      rw [B25_77_g38, B270_71]
      have f27 : ∀ c i, c ≠ 27 → c ≠ 0 → j_up I1 27 7 (nI (now' + 1)) c i = I1 c i := fun c i h1 _ => by rw [j_up_cell _ h1]
      have g1 : ∀ c, c < 5 → ∀ i, nc ≤ i → i < nc' → I2 (38 + 1 + c) i = I1 (38 + 1 + c) i := fun c hc i _ i2 => by rw [st2.1.2.2.1 c hc i i2, f27 _ _ (by omega) (by omega)]
      have g2 : ∀ c, c < 4 → ∀ i, nr ≤ i → i < nr' → J2 (21 + c) i = J1 (21 + c) i := fun c hc i _ i2 => by rw [st2.2.1.2.1 c hc i i2, j_up_cell _ (by omega)]
      have g3 : ∀ i, nr ≤ i → i < nr' → L2' 25 i = L1' 25 i := fun i _ i2 => st2.2.1.2.2.2.2.2.1 i i2
      -- the join
      have jn : ∃ (n3 la3 : Nat) (I3 : Nat → Nat → Int32), jv d 23 0 [some (.ref 27), some (.int (nI n)), some (.int last), some (.int (nI nc2))] [] (shC, adC 38 I2 nc2 7 (nI (K now')) (nI n) (nI n2) (-1), L2, pX pa pb (some 38) pw) = some (some (.int (nI n3)), (shC, I3, L2, pX pa pb (some 38) pw)) ∧ eSt 38 T s now nc nr I L J L' now2 (nc2 + 1) (nr2 + 1) I3 L2 (adR J2 nr2 wh (nI k) (nI k2) 0) (j_up L2' 25 nr2 0) ∧ (pst 38 I2 J2 L2' nl nt lam h true (lam + (now2 - (now' + 1))) s rho nc' nc2 nr' nr2 n2 k2 → chP 38 I3 (adR J2 nr2 wh (nI k) (nI k2) 0) (j_up L2' 25 nr2 0) nl nt lam h true (lam + (now2 - now)) s rho 7 nc (nc2 + 1) nr (nr2 + 1) n3 nr2 nc2) := by
        rcases hp with ⟨rfl, hp⟩ | ⟨la, rfl, hp⟩
        · exact ⟨nc2, nc2, _, join_n38 _ _, st4, fun z => chP.first (by omega) (by omega) hwh hp z (by omega) (by omega) b5 a5 b6 a6 g1 g2 g3 0⟩
        · obtain ⟨_, l1, l2, _⟩ := id hp
          exact ⟨n, nc2, _, join_c38 (show la < 1201 by omega) _ _, eSt.third hg st4 l1 _, fun z => chP.next (by omega) (by omega) hwh hp z (by omega) (by omega) b5 a5 b6 a6 g1 g2 g3 0 _⟩
      obtain ⟨n3, la3, I3, j1, j2, j3⟩ := jn
      rw [jgo_some (d := d) rfl j1]
      dsimp only [Option.toList_some, Option.toList_none, List.cons_append, List.nil_append]
      rw [B25_87_g38, show nI i + 1 = nI (i + 1) from nI_add i 1]
      rcases hh with ⟨h29', hp2⟩ | ⟨h40, h29', h30'⟩
      · exact ih now2 (nc2 + 1) (nr2 + 1) n3 nr2 (i + 1) (nI nc2) I3 _ L2 _ _ _ _ (by omega) j2 (by omega) (by rw [(adR_at nr2 wh (nI k) (nI k2) 0).2.2.2.2.2.2.1 29 (by decide)]; exact h29') (by omega) (Or.inr ⟨nc2, rfl, j3 hp2⟩)
      · have tk3 := eSt.tk hg j2 ok.1
        have r29 : adR J2 nr2 wh (nI k) (nI k2) 0 0 29 = 2 := by rw [(adR_at nr2 wh (nI k) (nI k2) 0).2.2.2.2.2.2.1 29 (by decide)]; exact h29'
        have r30 : adR J2 nr2 wh (nI k) (nI k2) 0 0 30 = nI (P now2) := by rw [(adR_at nr2 wh (nI k) (nI k2) 0).2.2.2.2.2.2.1 30 (by decide)]; exact h30'
        have xx := sum_x38 (d := d) (e := e) (i := i + 1) (now' := now2) (D := D) (D' := D') (x := nI n3) (y := nI nr2) (last := nI nc2) (o3 := some (.int wh)) (o5 := some (.int (nI (K now')))) (o6 := some (.int (nI nc2))) (I1 := I3) (J1 := adR J2 nr2 wh (nI k) (nI k2) 0) (L1 := L2) (L1' := j_up L2' 25 nr2 0) (pa := pa) (pb := pb) (pw := pw)
          (fun κ hκ => by rw [now_c tk3 j2.2.2.2.1 j2.2.2.2.2.2.2.2.2.1 j2.2.2.2.2.2.2.2.2.2.1 (by omega), if_neg (by rw [h40]; omega)])
          (Or.inl (by rw [r29]; decide))
        rw [xx.1, xx.2]
        exact jW2_some (eQ.pd (by omega) j2 h40 r29 r30)
    · -- a fault
      have hf1 := eF.pre st1 hf
      have fc := hf1.f
      have q1 := hf1.2.2.2.2.2.2.2.1
      have q2 := hf1.2.2.2.2.2.2.1
      have q3 := hf1.2.2.2.2.2.2.2.2.2.2.2.2.2
      have q4 := hf1.2.2.2.2.2.2.2.2.2.2.2.2.1
      have q5 := hf1.2.2.2.2.2.2.2.2.2.1
      have q6 := hf.2.2.2.2.2.2.2.2.2.2.2.2.1
      have r66 := node_r (e := e) (L' := L2') q3 (show nr2 < 1400 by omega) wh (nI k) y 0 0
      rw [jgo_some (d := e) rfl r66]
      dsimp only [Option.toList_some, Option.toList_none, List.cons_append, List.nil_append]
      rw [B270_71]
      have hf2 := eF.addR hf1 (by omega) wh (nI k) y 0 0
      have jn : ∃ (x3 l3 : Int32) (nc3 : Nat) (I3 : Nat → Nat → Int32), jgo jTT jMM (d + 1) 94 [.ref 38, .int 7, .int (nI (K now')), .int (nI n), .int x, .int (-1)] (shC, I2, L2, pX pa pb (some 38) pw) (fun v S => jv (d + 1) 25 77 [some (.ref 27), some (.int D), some (.int (nI n)), some (.int last), some (.int (nI i)), some (.int (nI (K now'))), o6] (v.toList ++ []) S) = jv (d + 1) 25 87 [some (.ref 27), some (.int D), some (.int (nI n)), some (.int last), some (.int (nI i)), some (.int (nI (K now'))), some (.int l3)] [.int x3] (shC, I3, L2, pX pa pb (some 38) pw) ∧ eF 38 T s now nc nr I L J L' now1 nc3 now2 (nr2 + 1) I3 L2 (adR J2 nr2 wh (nI k) y 0) (j_up L2' 25 nr2 0) := by
        rcases Nat.lt_or_eq_of_le q2 with z | z
        · rw [jgo_some (d := d) rfl (add_c38 q1 z _ _ _ _ _)]
          dsimp only [Option.toList_some, Option.toList_none, List.cons_append, List.nil_append]
          rw [B25_77_g38]
          have hf3 := eF.addC hg hf2 z 7 (nI (K now')) (nI n) x (-1)
          rcases hp with ⟨rfl, hp⟩ | ⟨la, rfl, hp⟩
          · exact ⟨_, _, _, _, by rw [jgo_some (d := d) rfl (join_n38 _ _)]; rfl, hf3⟩
          · obtain ⟨_, l1, l2, _⟩ := id hp
            exact ⟨_, _, _, _, by rw [jgo_some (d := d) rfl (join_c38 (show la < 1201 by omega) _ _)]; rfl, eF.third hg hf3 l1 _⟩
        · rw [jgo_some (d := d) rfl (add_f38 (by rw [q1, z]) _ _ _ _ _)]
          dsimp only [Option.toList_some, Option.toList_none, List.cons_append, List.nil_append]
          rw [B25_77_g38]
          rcases hp with ⟨rfl, hp⟩ | ⟨la, rfl, hp⟩
          · exact ⟨_, _, _, _, by rw [jgo_some (d := d) rfl (join_n38 _ _)]; rfl, hf2⟩
          · obtain ⟨_, l1, l2, _⟩ := id hp
            exact ⟨_, _, _, _, by rw [jgo_some (d := d) rfl (join_c38 (show la < 1201 by omega) _ _)]; rfl, eF.third hg hf2 l1 _⟩
      obtain ⟨x3, l3, nc3, I3, j1, j2⟩ := jn
      rw [j1, B25_87_g38, show nI i + 1 = nI (i + 1) from nI_add i 1]
      have xx := sum_x38 (d := d) (e := e) (i := i + 1) (now' := now2) (D := D) (D' := D') (x := x3) (y := nI nr2) (last := l3) (o3 := some (.int wh)) (o5 := some (.int (nI (K now')))) (o6 := some (.int l3)) (I1 := I3) (J1 := adR J2 nr2 wh (nI k) y 0) (L1 := L2) (L1' := j_up L2' 25 nr2 0) (pa := pa) (pb := pb) (pw := pw)
          (fun κ hκ => now_cf j2.f.1 _) (Or.inl j2.f.2)
      rw [xx.1, xx.2]
      exact jW2_some (eQ.f j2 _ _)
theorem sum_sim38 {d e h : Nat} {D D' : Int32} (H : ∀ (I : Nat → Nat → Int32) (L : Nat → Nat → Int64) (J : Nat → Nat → Int32) (L' : Nat → Nat → Int64) (now nc nr : Nat), pOk 38 T K P W U Q nm kd nb nl nt nu s cw rho now nc nr I L J L' → jW2 (jv d 26 0 [some (.ref 27), some (.int D), none, none, none, none, none] [] (shC, I, L, pX pa pb (some 38) pw)) (jv e 271 0 [some (.ref 0), some (.int D'), none, none] [] (shR, J, L', pR)) (eQ 38 T K P nl nt lam s rho h true now nc nr I L J L' (pX pa pb (some 38) pw))) {I J : Nat → Nat → Int32} {L L' : Nat → Nat → Int64} {now nc nr : Nat} (ok : pOk 38 T K P W U Q nm kd nb nl nt nu s cw rho now nc nr I L J L') : jW2 (jv (d + 1) 25 0 [some (.ref 27), some (.int D), none, none, none, none, none] [] (shC, I, L, pX pa pb (some 38) pw)) (jv (e + 1) 270 0 [some (.ref 0), some (.int D'), none, none] [] (shR, J, L', pR)) (eQ 38 T K P nl nt lam s rho (h + 1) true now nc nr I L J L' (pX pa pb (some 38) pw)) := by
  have hg : 38 = 38 ∨ 38 = 49 := by decide
  rw [B25_0_g38, B270_0]
  refine jW2_go rfl rfl (H _ _ _ _ _ _ _ ok) ?_
  rintro v S w S' ⟨I2, L2, J2, L2', x, y, rfl, rfl, rfl, rfl, hh⟩
  dsimp only [Option.toList_some, Option.toList_none, List.cons_append, List.nil_append]
  rw [B25_5_g38, B270_5]
  rcases hh with ⟨now2, nc2, nr2, n2, k2, lt2, st2, rfl, rfl, hh⟩ | ⟨now1, nc1, now2, nr2, hf⟩
  · rcases hh with ⟨h29', hp2⟩ | ⟨h40, h29', h30'⟩
    · exact sum_l38 H ok (T - now2 + 1) now2 nc2 nr2 n2 k2 0 (-1) I2 J2 L2 L2' _ _ _ (by omega) st2 lt2 h29' (by omega) (Or.inl ⟨rfl, hp2⟩)
    · have tk3 := eSt.tk hg st2 ok.1
      have xx := sum_x38 (d := d) (e := e) (i := 0) (now' := now2) (D := D) (D' := D') (x := nI n2) (y := nI k2) (last := -1) (o3 := none) (o5 := none) (o6 := none) (I1 := I2) (J1 := J2) (L1 := L2) (L1' := L2') (pa := pa) (pb := pb) (pw := pw)
          (fun κ hκ => by rw [now_c tk3 st2.2.2.2.1 st2.2.2.2.2.2.2.2.2.1 st2.2.2.2.2.2.2.2.2.2.1 (by omega), if_neg (by rw [h40]; omega)])
          (Or.inl (by rw [h29']; decide))
      rw [show (0 : Int32) = nI 0 from rfl, xx.1, xx.2]
      exact jW2_some (eQ.pd lt2 st2 h40 h29' h30')
  · have xx := sum_x38 (d := d) (e := e) (i := 0) (now' := now2) (D := D) (D' := D') (x := x) (y := y) (last := -1) (o3 := none) (o5 := none) (o6 := none) (I1 := I2) (J1 := J2) (L1 := L2) (L1' := L2') (pa := pa) (pb := pb) (pw := pw)
          (fun κ hκ => now_cf hf.f.1 _) (Or.inl hf.f.2)
    rw [show (0 : Int32) = nI 0 from rfl, xx.1, xx.2]
    exact jW2_some (eQ.f hf _ _)
/-- no operator stands here: the loops end -/
theorem prod_x38 {d e i now' : Nat} {D D' x y last : Int32} {o3 o5 o6 : Option Value} {I1 J1 : Nat → Nat → Int32} {L1 L1' : Nat → Nat → Int64} (hc : ∀ κ, κ = 42 ∨ κ = 47 → jv d 8 0 [some (.ref 27), some (.int (nI κ))] [] (shC, I1, L1, pX pa pb (some 38) pw) = some (some (.int 0), (shC, I1, L1, pX pa pb (some 38) pw))) (hr : J1 0 29 ≠ 0 ∨ ∀ κ, κ = 42 ∨ κ = 47 → jv e 258 0 [some (.ref 0), some (.int (nI κ))] [] (shR, J1, L1', pR) = some (some (.int 0), (shR, J1, L1', pR))) : jv (d + 1) 26 11 [some (.ref 27), some (.int D), some (.int x), some (.int last), some (.int (nI i)), o5, o6] [] (shC, I1, L1, pX pa pb (some 38) pw) = some (some (.int x), (shC, I1, L1, pX pa pb (some 38) pw)) ∧ jv (e + 1) 271 6 [some (.ref 0), some (.int D'), some (.int y), o3] [] (shR, J1, L1', pR) = some (some (.int y), (shR, J1, L1', pR)) := by
  constructor
  · rw [B26_11_g38]
    by_cases q : nI i < I1 27 6
    · rw [if_pos q, show (42 : Int32) = nI 42 from rfl, jgo_some (d := d) rfl (hc 42 (Or.inl rfl))]
      dsimp only [Option.toList_some, Option.toList_none, List.cons_append, List.nil_append]
      rw [B26_26_g38, if_pos rfl, show (47 : Int32) = nI 47 from rfl, jgo_some (d := d) rfl (hc 47 (Or.inr rfl))]
      dsimp only [Option.toList_some, Option.toList_none, List.cons_append, List.nil_append]
      rw [B26_35_g38, if_pos rfl, B26_97_g38]
    · rw [if_neg q, B26_97_g38]
  · rw [B271_6]
    by_cases z : J1 0 29 = 0
    · rcases hr with q | q
      · exact absurd z q
      · rw [if_pos z, show (42 : Int32) = nI 42 from rfl, jgo_some (d := e) rfl (q 42 (Or.inl rfl))]
        dsimp only [Option.toList_some, Option.toList_none, List.cons_append, List.nil_append]
        rw [B271_19, if_pos rfl, show (47 : Int32) = nI 47 from rfl, jgo_some (d := e) rfl (q 47 (Or.inr rfl))]
        dsimp only [Option.toList_some, Option.toList_none, List.cons_append, List.nil_append]
        rw [B271_28, if_pos rfl, B271_75]
    · rw [if_neg z, B271_75]
theorem prod_e38 {d e h : Nat} {D D' : Int32} {I J : Nat → Nat → Int32} {L L' : Nat → Nat → Int64} {now nc nr : Nat} (ok : pOk 38 T K P W U Q nm kd nb nl nt nu s cw rho now nc nr I L J L') {now' nc' nr' n k i : Nat} {last : Int32} {I1 J1 : Nat → Nat → Int32} {L1 L1' : Nat → Nat → Int64} {o3 o5 o6 : Option Value} (st : eSt 38 T s now nc nr I L J L' now' nc' nr' I1 L1 J1 L1') (lt : now < now') (h29 : J1 0 29 = 0) (hp : (last = -1 ∧ pst 38 I1 J1 L1' nl nt lam h true (lam + (now' - now)) s rho nc nc' nr nr' n k) ∨ ∃ la, last = nI la ∧ chP 38 I1 J1 L1' nl nt lam h true (lam + (now' - now)) s rho 7 nc nc' nr nr' n k la) (h1 : K now' ≠ 42) (h2 : K now' ≠ 47) : jW2 (jv (d + 1) 26 11 [some (.ref 27), some (.int D), some (.int (nI n)), some (.int last), some (.int (nI i)), o5, o6] [] (shC, I1, L1, pX pa pb (some 38) pw)) (jv (e + 1) 271 6 [some (.ref 0), some (.int D'), some (.int (nI k)), o3] [] (shR, J1, L1', pR)) (eQ 38 T K P nl nt lam s rho (h + 1) true now nc nr I L J L' (pX pa pb (some 38) pw)) := by
  have tk := eSt.tk (by decide) st ok.1
  have np : pst 38 I1 J1 L1' nl nt lam (h + 1) true (lam + (now' - now)) s rho nc nc' nr nr' n k := by
    rcases hp with ⟨_, z⟩ | ⟨la, _, z⟩
    · exact z.frame (by omega) (Nat.le_refl _) (Nat.le_refl _) (Nat.le_refl _) (Nat.le_refl _) (Nat.le_refl _) (fun _ _ _ _ _ => rfl) (fun _ _ _ _ _ => rfl) (fun _ _ _ => rfl)
    · exact z.done (Or.inl ⟨rfl, rfl⟩)
  have xx := prod_x38 (d := d) (e := e) (i := i) (now' := now') (D := D) (D' := D') (x := nI n) (y := nI k) (last := last) (o3 := o3) (o5 := o5) (o6 := o6) (I1 := I1) (J1 := J1) (L1 := L1) (L1' := L1') (pa := pa) (pb := pb) (pw := pw)
    (fun κ hκ => by rw [now_c tk st.2.2.2.1 st.2.2.2.2.2.2.2.2.1 st.2.2.2.2.2.2.2.2.2.1 (by omega), if_neg (by rcases hκ with z | z <;> rw [z] <;> assumption)])
    (Or.inr (fun κ hκ => by
      have := is_r (e := e) tk st.2.2.2.1 st.2.2.2.2.2.2.2.2.2.2.2.2.2.1 (k := κ) (by rcases hκ with z | z <;> rw [z] <;> decide)
      rw [if_neg (by rcases hκ with z | z <;> rw [z] <;> assumption), show kR κ = κ by rcases hκ with z | z <;> rw [z] <;> decide] at this
      exact this))
  rw [xx.1, xx.2]
  exact jW2_some (eQ.ok lt st h29 np)
theorem prod_l38 {d e h : Nat} {D D' : Int32} (H : ∀ (I : Nat → Nat → Int32) (L : Nat → Nat → Int64) (J : Nat → Nat → Int32) (L' : Nat → Nat → Int64) (now nc nr : Nat), pOk 38 T K P W U Q nm kd nb nl nt nu s cw rho now nc nr I L J L' → jW2 (jv d 27 0 [some (.ref 27), some (.int D), none] [] (shC, I, L, pX pa pb (some 38) pw)) (jv e 272 0 [some (.ref 0), some (.int D'), none, none, none, none] [] (shR, J, L', pR)) (eQ 38 T K P nl nt lam s rho h true now nc nr I L J L' (pX pa pb (some 38) pw))) {I J : Nat → Nat → Int32} {L L' : Nat → Nat → Int64} {now nc nr : Nat} (ok : pOk 38 T K P W U Q nm kd nb nl nt nu s cw rho now nc nr I L J L') : ∀ (r now' nc' nr' n k i : Nat) (last : Int32) (I1 J1 : Nat → Nat → Int32) (L1 L1' : Nat → Nat → Int64) (o3 o5 o6 : Option Value), T - now' < r → eSt 38 T s now nc nr I L J L' now' nc' nr' I1 L1 J1 L1' → now < now' → J1 0 29 = 0 → i ≤ now' → ((last = -1 ∧ pst 38 I1 J1 L1' nl nt lam h true (lam + (now' - now)) s rho nc nc' nr nr' n k) ∨ ∃ la, last = nI la ∧ chP 38 I1 J1 L1' nl nt lam h true (lam + (now' - now)) s rho 7 nc nc' nr nr' n k la) → jW2 (jv (d + 1) 26 11 [some (.ref 27), some (.int D), some (.int (nI n)), some (.int last), some (.int (nI i)), o5, o6] [] (shC, I1, L1, pX pa pb (some 38) pw)) (jv (e + 1) 271 6 [some (.ref 0), some (.int D'), some (.int (nI k)), o3] [] (shR, J1, L1', pR)) (eQ 38 T K P nl nt lam s rho (h + 1) true now nc nr I L J L' (pX pa pb (some 38) pw)) := by
  intro r
  induction r with
  | zero => intro now' nc' nr' n k i last I1 J1 L1 L1' o3 o5 o6 hr; exact absurd hr (Nat.not_lt_zero _)
  | succ r ih =>
    intro now' nc' nr' n k i last I1 J1 L1 L1' o3 o5 o6 hr st lt h29 hi hp
    by_cases h12 : K now' = 42 ∨ K now' = 47
    case neg => exact prod_e38 ok st lt h29 hp (fun z => h12 (Or.inl z)) (fun z => h12 (Or.inr z))
    have hg : 38 = 38 ∨ 38 = 49 := by decide
    have tk := eSt.tk hg st ok.1
    have hT := ok.1.1
    have ltT : now' < T := by rcases h12 with z | z <;> exact tk.lt st.2.2.2.1 z (by decide)
    obtain ⟨b1, b2, b3, b4, b5, b6, b7, b8, b9, b10, b11, b12, b13, b14, b15⟩ := id st
    have hnc := ok.2.2.2.2.2.1
    have hnr := ok.2.2.2.2.2.2.1
    have kq := tk.2.2.2.1 now' b4
    -- the first program's step
    have cs : jv (d + 1) 26 11 [some (.ref 27), some (.int D), some (.int (nI n)), some (.int last), some (.int (nI i)), o5, o6] [] (shC, I1, L1, pX pa pb (some 38) pw) = jgo jTT jMM (d + 1) 27 [.ref 27, .int D] (shC, j_up I1 27 7 (nI (now' + 1)), L1, pX pa pb (some 38) pw) (fun v S => jv (d + 1) 26 73 [some (.ref 27), some (.int D), some (.int (nI n)), some (.int last), some (.int (nI i)), some (.int (nI (K now'))), o6] (v.toList ++ [.int (nI n), .int (nI (K now')), .int 7, .ref 38]) S) := by
      have s38 : jv (d + 1) 26 38 [some (.ref 27), some (.int D), some (.int (nI n)), some (.int last), some (.int (nI i)), o5, o6] [] (shC, I1, L1, pX pa pb (some 38) pw) = jgo jTT jMM (d + 1) 27 [.ref 27, .int D] (shC, j_up I1 27 7 (nI (now' + 1)), L1, pX pa pb (some 38) pw) (fun v S => jv (d + 1) 26 73 [some (.ref 27), some (.int D), some (.int (nI n)), some (.int last), some (.int (nI i)), some (.int (nI (K now'))), o6] (v.toList ++ [.int (nI n), .int (nI (K now')), .int 7, .ref 38]) S) := by
        rw [B26_38_g38, b10, if_pos (j_in_nI (by omega) (by decide)), nI_clamp (by omega), kq.1, show nI now' + 1 = nI (now' + 1) from nI_add now' 1]
      rw [B26_11_g38, tk.2.1, if_pos (nI_lt (by omega) (by omega)), show (42 : Int32) = nI 42 from rfl, jgo_some (d := d) rfl (now_c tk b4 b9 b10 (k := 42) (by decide))]
      dsimp only [Option.toList_some, Option.toList_none, List.cons_append, List.nil_append]
      rw [B26_26_g38]
      by_cases z : K now' = 42
      · rw [if_pos z, if_neg (by decide), s38]
      · rw [if_neg z, if_pos rfl, show (47 : Int32) = nI 47 from rfl, jgo_some (d := d) rfl (now_c tk b4 b9 b10 (k := 47) (by decide)), if_pos (h12.resolve_left z)]
        dsimp only [Option.toList_some, Option.toList_none, List.cons_append, List.nil_append]
        rw [B26_35_g38, if_neg (by decide), s38]
    have rs : ∃ wh : Int32, opC 7 (nI (K now')) wh ∧ jv (e + 1) 271 6 [some (.ref 0), some (.int D'), some (.int (nI k)), o3] [] (shR, J1, L1', pR) = jgo jTT jMM (e + 1) 272 [.ref 0, .int D'] (shR, j_up J1 0 28 (nI (now' + 1)), L1', pR) (fun v S => jv (e + 1) 271 66 [some (.ref 0), some (.int D'), some (.int (nI k)), some (.int wh)] (v.toList ++ [.int (nI k), .int wh, .ref 0]) S) := by
      have i1 := is_r (e := e) tk b4 b14 (k := 42) (by decide)
      have i2 := is_r (e := e) tk b4 b14 (k := 47) (by decide)
      rw [show nI (kR 42) = (42 : Int32) from rfl] at i1
      rw [show nI (kR 47) = (47 : Int32) from rfl] at i2
      by_cases z : K now' = 42
      · rw [if_pos z] at i1
        refine ⟨14, ?_, ?_⟩
        · rw [z]; unfold opC; decide
        · rw [B271_6, if_pos h29, jgo_some (d := e) rfl i1]
          dsimp only [Option.toList_some, Option.toList_none, List.cons_append, List.nil_append]
          rw [B271_19, if_neg (by decide), B271_31, jgo_some (d := e) rfl i1]
          dsimp only [Option.toList_some, Option.toList_none, List.cons_append, List.nil_append]
          rw [B271_37, if_neg (by decide), B271_47, b14, show nI now' + 1 = nI (now' + 1) from nI_add now' 1]
      · have z2 := h12.resolve_left z
        rw [if_neg z] at i1
        rw [if_pos z2] at i2
        refine ⟨15, ?_, ?_⟩
        · rw [z2]; unfold opC; decide
        · rw [B271_6, if_pos h29, jgo_some (d := e) rfl i1]
          dsimp only [Option.toList_some, Option.toList_none, List.cons_append, List.nil_append]
          rw [B271_19, if_pos rfl, jgo_some (d := e) rfl i2]
          dsimp only [Option.toList_some, Option.toList_none, List.cons_append, List.nil_append]
          rw [B271_28, if_neg (by decide), B271_31, jgo_some (d := e) rfl i1]
          dsimp only [Option.toList_some, Option.toList_none, List.cons_append, List.nil_append]
          rw [B271_37, if_pos rfl, B271_47, b14, show nI now' + 1 = nI (now' + 1) from nI_add now' 1]
    obtain ⟨wh, hwh, rs⟩ := rs
    rw [cs, rs]
    have st1 := eSt.adv hg st ltT
    have ok1 : pOk 38 T K P W U Q nm kd nb nl nt nu s cw rho (now' + 1) nc' nr' (j_up I1 27 7 (nI (now' + 1))) L1 (j_up J1 0 28 (nI (now' + 1))) L1' := eSt.ok hg ok st1 (by rw [j_up_own, if_neg (by decide), h29])
    refine jW2_go rfl rfl (H _ _ _ _ _ _ _ ok1) ?_
    rintro v S w S' ⟨I2, L2, J2, L2', x, y, rfl, rfl, rfl, rfl, hh⟩
    dsimp only [Option.toList_some, Option.toList_none, List.cons_append, List.nil_append]
    rw [B26_73_g38, B271_66]
    rcases hh with ⟨now2, nc2, nr2, n2, k2, lt2, st2, rfl, rfl, hh⟩ | ⟨now1, nc1, now2, nr2, hf⟩
    · -- no fault in the first
      obtain ⟨_, _, a3, a4, a5, a6, a7, a8, a9, a10, a11, a12, a13, a14, a15⟩ := id st2
      have st3 := eSt.trans st1 st2
      have st4 := eSt.add hg st3 (by omega) (by omega) 7 (nI (K now')) (nI n) (nI n2) (-1) wh (nI k) (nI k2) 0 0
      have c94 := add_c38 (d := d) (L := L2) (pa := pa) (pb := pb) (pu := some 38) (pw := pw) a12 (show nc2 < 1201 by omega) 7 (nI (K now')) (nI n) (nI n2) (-1)
      have r66 := node_r (e := e) (L' := L2') a15 (show nr2 < 1400 by omega) wh (nI k) (nI k2) 0 0
      rw [jgo_some (d := d) rfl c94, jgo_some (d := e) rfl r66]
      dsimp only [Option.toList_some, Option.toList_none, List.cons_append, List.nil_append]
      rw [B26_77_g38, B271_71]
      have f27 : ∀ c i, c ≠ 27 → c ≠ 0 → j_up I1 27 7 (nI (now' + 1)) c i = I1 c i := fun c i h1 _ => by rw [j_up_cell _ h1]
      have g1 : ∀ c, c < 5 → ∀ i, nc ≤ i → i < nc' → I2 (38 + 1 + c) i = I1 (38 + 1 + c) i := fun c hc i _ i2 => by rw [st2.1.2.2.1 c hc i i2, f27 _ _ (by omega) (by omega)]
      have g2 : ∀ c, c < 4 → ∀ i, nr ≤ i → i < nr' → J2 (21 + c) i = J1 (21 + c) i := fun c hc i _ i2 => by rw [st2.2.1.2.1 c hc i i2, j_up_cell _ (by omega)]
      have g3 : ∀ i, nr ≤ i → i < nr' → L2' 25 i = L1' 25 i := fun i _ i2 => st2.2.1.2.2.2.2.2.1 i i2
      -- the join
      have jn : ∃ (n3 la3 : Nat) (I3 : Nat → Nat → Int32), jv d 23 0 [some (.ref 27), some (.int (nI n)), some (.int last), some (.int (nI nc2))] [] (shC, adC 38 I2 nc2 7 (nI (K now')) (nI n) (nI n2) (-1), L2, pX pa pb (some 38) pw) = some (some (.int (nI n3)), (shC, I3, L2, pX pa pb (some 38) pw)) ∧ eSt 38 T s now nc nr I L J L' now2 (nc2 + 1) (nr2 + 1) I3 L2 (adR J2 nr2 wh (nI k) (nI k2) 0) (j_up L2' 25 nr2 0) ∧ (pst 38 I2 J2 L2' nl nt lam h true (lam + (now2 - (now' + 1))) s rho nc' nc2 nr' nr2 n2 k2 → chP 38 I3 (adR J2 nr2 wh (nI k) (nI k2) 0) (j_up L2' 25 nr2 0) nl nt lam h true (lam + (now2 - now)) s rho 7 nc (nc2 + 1) nr (nr2 + 1) n3 nr2 nc2) := by
        rcases hp with ⟨rfl, hp⟩ | ⟨la, rfl, hp⟩
        · exact ⟨nc2, nc2, _, join_n38 _ _, st4, fun z => chP.first (by omega) (by omega) hwh hp z (by omega) (by omega) b5 a5 b6 a6 g1 g2 g3 0⟩
        · obtain ⟨_, l1, l2, _⟩ := id hp
          exact ⟨n, nc2, _, join_c38 (show la < 1201 by omega) _ _, eSt.third hg st4 l1 _, fun z => chP.next (by omega) (by omega) hwh hp z (by omega) (by omega) b5 a5 b6 a6 g1 g2 g3 0 _⟩
      obtain ⟨n3, la3, I3, j1, j2, j3⟩ := jn
      rw [jgo_some (d := d) rfl j1]
      dsimp only [Option.toList_some, Option.toList_none, List.cons_append, List.nil_append]
      rw [B26_87_g38, show nI i + 1 = nI (i + 1) from nI_add i 1]
      rcases hh with ⟨h29', hp2⟩ | ⟨h40, h29', h30'⟩
      · exact ih now2 (nc2 + 1) (nr2 + 1) n3 nr2 (i + 1) (nI nc2) I3 _ L2 _ _ _ _ (by omega) j2 (by omega) (by rw [(adR_at nr2 wh (nI k) (nI k2) 0).2.2.2.2.2.2.1 29 (by decide)]; exact h29') (by omega) (Or.inr ⟨nc2, rfl, j3 hp2⟩)
      · have tk3 := eSt.tk hg j2 ok.1
        have r29 : adR J2 nr2 wh (nI k) (nI k2) 0 0 29 = 2 := by rw [(adR_at nr2 wh (nI k) (nI k2) 0).2.2.2.2.2.2.1 29 (by decide)]; exact h29'
        have r30 : adR J2 nr2 wh (nI k) (nI k2) 0 0 30 = nI (P now2) := by rw [(adR_at nr2 wh (nI k) (nI k2) 0).2.2.2.2.2.2.1 30 (by decide)]; exact h30'
        have xx := prod_x38 (d := d) (e := e) (i := i + 1) (now' := now2) (D := D) (D' := D') (x := nI n3) (y := nI nr2) (last := nI nc2) (o3 := some (.int wh)) (o5 := some (.int (nI (K now')))) (o6 := some (.int (nI nc2))) (I1 := I3) (J1 := adR J2 nr2 wh (nI k) (nI k2) 0) (L1 := L2) (L1' := j_up L2' 25 nr2 0) (pa := pa) (pb := pb) (pw := pw)
          (fun κ hκ => by rw [now_c tk3 j2.2.2.2.1 j2.2.2.2.2.2.2.2.2.1 j2.2.2.2.2.2.2.2.2.2.1 (by omega), if_neg (by rw [h40]; omega)])
          (Or.inl (by rw [r29]; decide))
        rw [xx.1, xx.2]
        exact jW2_some (eQ.pd (by omega) j2 h40 r29 r30)
    · -- a fault
      have hf1 := eF.pre st1 hf
      have fc := hf1.f
      have q1 := hf1.2.2.2.2.2.2.2.1
      have q2 := hf1.2.2.2.2.2.2.1
      have q3 := hf1.2.2.2.2.2.2.2.2.2.2.2.2.2
      have q4 := hf1.2.2.2.2.2.2.2.2.2.2.2.2.1
      have q5 := hf1.2.2.2.2.2.2.2.2.2.1
      have q6 := hf.2.2.2.2.2.2.2.2.2.2.2.2.1
      have r66 := node_r (e := e) (L' := L2') q3 (show nr2 < 1400 by omega) wh (nI k) y 0 0
      rw [jgo_some (d := e) rfl r66]
      dsimp only [Option.toList_some, Option.toList_none, List.cons_append, List.nil_append]
      rw [B271_71]
      have hf2 := eF.addR hf1 (by omega) wh (nI k) y 0 0
      have jn : ∃ (x3 l3 : Int32) (nc3 : Nat) (I3 : Nat → Nat → Int32), jgo jTT jMM (d + 1) 94 [.ref 38, .int 7, .int (nI (K now')), .int (nI n), .int x, .int (-1)] (shC, I2, L2, pX pa pb (some 38) pw) (fun v S => jv (d + 1) 26 77 [some (.ref 27), some (.int D), some (.int (nI n)), some (.int last), some (.int (nI i)), some (.int (nI (K now'))), o6] (v.toList ++ []) S) = jv (d + 1) 26 87 [some (.ref 27), some (.int D), some (.int (nI n)), some (.int last), some (.int (nI i)), some (.int (nI (K now'))), some (.int l3)] [.int x3] (shC, I3, L2, pX pa pb (some 38) pw) ∧ eF 38 T s now nc nr I L J L' now1 nc3 now2 (nr2 + 1) I3 L2 (adR J2 nr2 wh (nI k) y 0) (j_up L2' 25 nr2 0) := by
        rcases Nat.lt_or_eq_of_le q2 with z | z
        · rw [jgo_some (d := d) rfl (add_c38 q1 z _ _ _ _ _)]
          dsimp only [Option.toList_some, Option.toList_none, List.cons_append, List.nil_append]
          rw [B26_77_g38]
          have hf3 := eF.addC hg hf2 z 7 (nI (K now')) (nI n) x (-1)
          rcases hp with ⟨rfl, hp⟩ | ⟨la, rfl, hp⟩
          · exact ⟨_, _, _, _, by rw [jgo_some (d := d) rfl (join_n38 _ _)]; rfl, hf3⟩
          · obtain ⟨_, l1, l2, _⟩ := id hp
            exact ⟨_, _, _, _, by rw [jgo_some (d := d) rfl (join_c38 (show la < 1201 by omega) _ _)]; rfl, eF.third hg hf3 l1 _⟩
        · rw [jgo_some (d := d) rfl (add_f38 (by rw [q1, z]) _ _ _ _ _)]
          dsimp only [Option.toList_some, Option.toList_none, List.cons_append, List.nil_append]
          rw [B26_77_g38]
          rcases hp with ⟨rfl, hp⟩ | ⟨la, rfl, hp⟩
          · exact ⟨_, _, _, _, by rw [jgo_some (d := d) rfl (join_n38 _ _)]; rfl, hf2⟩
          · obtain ⟨_, l1, l2, _⟩ := id hp
            exact ⟨_, _, _, _, by rw [jgo_some (d := d) rfl (join_c38 (show la < 1201 by omega) _ _)]; rfl, eF.third hg hf2 l1 _⟩
      obtain ⟨x3, l3, nc3, I3, j1, j2⟩ := jn
      rw [j1, B26_87_g38, show nI i + 1 = nI (i + 1) from nI_add i 1]
      have xx := prod_x38 (d := d) (e := e) (i := i + 1) (now' := now2) (D := D) (D' := D') (x := x3) (y := nI nr2) (last := l3) (o3 := some (.int wh)) (o5 := some (.int (nI (K now')))) (o6 := some (.int l3)) (I1 := I3) (J1 := adR J2 nr2 wh (nI k) y 0) (L1 := L2) (L1' := j_up L2' 25 nr2 0) (pa := pa) (pb := pb) (pw := pw)
          (fun κ hκ => now_cf j2.f.1 _) (Or.inl j2.f.2)
      rw [xx.1, xx.2]
      exact jW2_some (eQ.f j2 _ _)
theorem prod_sim38 {d e h : Nat} {D D' : Int32} (H : ∀ (I : Nat → Nat → Int32) (L : Nat → Nat → Int64) (J : Nat → Nat → Int32) (L' : Nat → Nat → Int64) (now nc nr : Nat), pOk 38 T K P W U Q nm kd nb nl nt nu s cw rho now nc nr I L J L' → jW2 (jv d 27 0 [some (.ref 27), some (.int D), none] [] (shC, I, L, pX pa pb (some 38) pw)) (jv e 272 0 [some (.ref 0), some (.int D'), none, none, none, none] [] (shR, J, L', pR)) (eQ 38 T K P nl nt lam s rho h true now nc nr I L J L' (pX pa pb (some 38) pw))) {I J : Nat → Nat → Int32} {L L' : Nat → Nat → Int64} {now nc nr : Nat} (ok : pOk 38 T K P W U Q nm kd nb nl nt nu s cw rho now nc nr I L J L') : jW2 (jv (d + 1) 26 0 [some (.ref 27), some (.int D), none, none, none, none, none] [] (shC, I, L, pX pa pb (some 38) pw)) (jv (e + 1) 271 0 [some (.ref 0), some (.int D'), none, none] [] (shR, J, L', pR)) (eQ 38 T K P nl nt lam s rho (h + 1) true now nc nr I L J L' (pX pa pb (some 38) pw)) := by
  have hg : 38 = 38 ∨ 38 = 49 := by decide
  rw [B26_0_g38, B271_0]
  refine jW2_go rfl rfl (H _ _ _ _ _ _ _ ok) ?_
  rintro v S w S' ⟨I2, L2, J2, L2', x, y, rfl, rfl, rfl, rfl, hh⟩
  dsimp only [Option.toList_some, Option.toList_none, List.cons_append, List.nil_append]
  rw [B26_5_g38, B271_5]
  rcases hh with ⟨now2, nc2, nr2, n2, k2, lt2, st2, rfl, rfl, hh⟩ | ⟨now1, nc1, now2, nr2, hf⟩
  · rcases hh with ⟨h29', hp2⟩ | ⟨h40, h29', h30'⟩
    · exact prod_l38 H ok (T - now2 + 1) now2 nc2 nr2 n2 k2 0 (-1) I2 J2 L2 L2' _ _ _ (by omega) st2 lt2 h29' (by omega) (Or.inl ⟨rfl, hp2⟩)
    · have tk3 := eSt.tk hg st2 ok.1
      have xx := prod_x38 (d := d) (e := e) (i := 0) (now' := now2) (D := D) (D' := D') (x := nI n2) (y := nI k2) (last := -1) (o3 := none) (o5 := none) (o6 := none) (I1 := I2) (J1 := J2) (L1 := L2) (L1' := L2') (pa := pa) (pb := pb) (pw := pw)
          (fun κ hκ => by rw [now_c tk3 st2.2.2.2.1 st2.2.2.2.2.2.2.2.2.1 st2.2.2.2.2.2.2.2.2.2.1 (by omega), if_neg (by rw [h40]; omega)])
          (Or.inl (by rw [h29']; decide))
      rw [show (0 : Int32) = nI 0 from rfl, xx.1, xx.2]
      exact jW2_some (eQ.pd lt2 st2 h40 h29' h30')
  · have xx := prod_x38 (d := d) (e := e) (i := 0) (now' := now2) (D := D) (D' := D') (x := x) (y := y) (last := -1) (o3 := none) (o5 := none) (o6 := none) (I1 := I2) (J1 := J2) (L1 := L2) (L1' := L2') (pa := pa) (pb := pb) (pw := pw)
          (fun κ hκ => now_cf hf.f.1 _) (Or.inl hf.f.2)
    rw [show (0 : Int32) = nI 0 from rfl, xx.1, xx.2]
    exact jW2_some (eQ.f hf _ _)
/-- no operator stands here: the loops end -/
theorem sum_x49 {d e i now' : Nat} {D D' x y last : Int32} {o3 o5 o6 : Option Value} {I1 J1 : Nat → Nat → Int32} {L1 L1' : Nat → Nat → Int64} (hc : ∀ κ, κ = 43 ∨ κ = 45 → jv d 8 0 [some (.ref 27), some (.int (nI κ))] [] (shC, I1, L1, pX pa pb (some 49) pw) = some (some (.int 0), (shC, I1, L1, pX pa pb (some 49) pw))) (hr : J1 0 29 ≠ 0 ∨ ∀ κ, κ = 43 ∨ κ = 45 → jv e 258 0 [some (.ref 0), some (.int (nI κ))] [] (shR, J1, L1', pR) = some (some (.int 0), (shR, J1, L1', pR))) : jv (d + 1) 25 11 [some (.ref 27), some (.int D), some (.int x), some (.int last), some (.int (nI i)), o5, o6] [] (shC, I1, L1, pX pa pb (some 49) pw) = some (some (.int x), (shC, I1, L1, pX pa pb (some 49) pw)) ∧ jv (e + 1) 270 6 [some (.ref 0), some (.int D'), some (.int y), o3] [] (shR, J1, L1', pR) = some (some (.int y), (shR, J1, L1', pR)) := by
  constructor
  · rw [B25_11_g49]
    by_cases q : nI i < I1 27 6
    · rw [if_pos q, show (43 : Int32) = nI 43 from rfl, jgo_some (d := d) rfl (hc 43 (Or.inl rfl))]
      dsimp only [Option.toList_some, Option.toList_none, List.cons_append, List.nil_append]
      rw [B25_26_g49, if_pos rfl, show (45 : Int32) = nI 45 from rfl, jgo_some (d := d) rfl (hc 45 (Or.inr rfl))]
      dsimp only [Option.toList_some, Option.toList_none, List.cons_append, List.nil_append]
      rw [B25_35_g49, if_pos rfl, B25_97_g49]
    · rw [if_neg q, B25_97_g49]
  · rw [B270_6]
    by_cases z : J1 0 29 = 0
    · rcases hr with q | q
      · exact absurd z q
      · rw [if_pos z, show (43 : Int32) = nI 43 from rfl, jgo_some (d := e) rfl (q 43 (Or.inl rfl))]
        dsimp only [Option.toList_some, Option.toList_none, List.cons_append, List.nil_append]
        rw [B270_19, if_pos rfl, show (45 : Int32) = nI 45 from rfl, jgo_some (d := e) rfl (q 45 (Or.inr rfl))]
        dsimp only [Option.toList_some, Option.toList_none, List.cons_append, List.nil_append]
        rw [B270_28, if_pos rfl, B270_75]
    · rw [if_neg z, B270_75]
theorem sum_e49 {d e h : Nat} {D D' : Int32} {I J : Nat → Nat → Int32} {L L' : Nat → Nat → Int64} {now nc nr : Nat} (ok : pOk 49 T K P W U Q nm kd nb nl nt nu s cw rho now nc nr I L J L') {now' nc' nr' n k i : Nat} {last : Int32} {I1 J1 : Nat → Nat → Int32} {L1 L1' : Nat → Nat → Int64} {o3 o5 o6 : Option Value} (st : eSt 49 T s now nc nr I L J L' now' nc' nr' I1 L1 J1 L1') (lt : now < now') (h29 : J1 0 29 = 0) (hp : (last = -1 ∧ pst 49 I1 J1 L1' nl nt lam h true (lam + (now' - now)) s rho nc nc' nr nr' n k) ∨ ∃ la, last = nI la ∧ chP 49 I1 J1 L1' nl nt lam h true (lam + (now' - now)) s rho 7 nc nc' nr nr' n k la) (h1 : K now' ≠ 43) (h2 : K now' ≠ 45) : jW2 (jv (d + 1) 25 11 [some (.ref 27), some (.int D), some (.int (nI n)), some (.int last), some (.int (nI i)), o5, o6] [] (shC, I1, L1, pX pa pb (some 49) pw)) (jv (e + 1) 270 6 [some (.ref 0), some (.int D'), some (.int (nI k)), o3] [] (shR, J1, L1', pR)) (eQ 49 T K P nl nt lam s rho (h + 1) true now nc nr I L J L' (pX pa pb (some 49) pw)) := by
  have tk := eSt.tk (by decide) st ok.1
  have np : pst 49 I1 J1 L1' nl nt lam (h + 1) true (lam + (now' - now)) s rho nc nc' nr nr' n k := by
    rcases hp with ⟨_, z⟩ | ⟨la, _, z⟩
    · exact z.frame (by omega) (Nat.le_refl _) (Nat.le_refl _) (Nat.le_refl _) (Nat.le_refl _) (Nat.le_refl _) (fun _ _ _ _ _ => rfl) (fun _ _ _ _ _ => rfl) (fun _ _ _ => rfl)
    · exact z.done (Or.inl ⟨rfl, rfl⟩)
  have xx := sum_x49 (d := d) (e := e) (i := i) (now' := now') (D := D) (D' := D') (x := nI n) (y := nI k) (last := last) (o3 := o3) (o5 := o5) (o6 := o6) (I1 := I1) (J1 := J1) (L1 := L1) (L1' := L1') (pa := pa) (pb := pb) (pw := pw)
    (fun κ hκ => by rw [now_c tk st.2.2.2.1 st.2.2.2.2.2.2.2.2.1 st.2.2.2.2.2.2.2.2.2.1 (by omega), if_neg (by rcases hκ with z | z <;> rw [z] <;> assumption)])
    (Or.inr (fun κ hκ => by
      have := is_r (e := e) tk st.2.2.2.1 st.2.2.2.2.2.2.2.2.2.2.2.2.2.1 (k := κ) (by rcases hκ with z | z <;> rw [z] <;> decide)
      rw [if_neg (by rcases hκ with z | z <;> rw [z] <;> assumption), show kR κ = κ by rcases hκ with z | z <;> rw [z] <;> decide] at this
      exact this))
  rw [xx.1, xx.2]
  exact jW2_some (eQ.ok lt st h29 np)
theorem sum_l49 {d e h : Nat} {D D' : Int32} (H : ∀ (I : Nat → Nat → Int32) (L : Nat → Nat → Int64) (J : Nat → Nat → Int32) (L' : Nat → Nat → Int64) (now nc nr : Nat), pOk 49 T K P W U Q nm kd nb nl nt nu s cw rho now nc nr I L J L' → jW2 (jv d 26 0 [some (.ref 27), some (.int D), none, none, none, none, none] [] (shC, I, L, pX pa pb (some 49) pw)) (jv e 271 0 [some (.ref 0), some (.int D'), none, none] [] (shR, J, L', pR)) (eQ 49 T K P nl nt lam s rho h true now nc nr I L J L' (pX pa pb (some 49) pw))) {I J : Nat → Nat → Int32} {L L' : Nat → Nat → Int64} {now nc nr : Nat} (ok : pOk 49 T K P W U Q nm kd nb nl nt nu s cw rho now nc nr I L J L') : ∀ (r now' nc' nr' n k i : Nat) (last : Int32) (I1 J1 : Nat → Nat → Int32) (L1 L1' : Nat → Nat → Int64) (o3 o5 o6 : Option Value), T - now' < r → eSt 49 T s now nc nr I L J L' now' nc' nr' I1 L1 J1 L1' → now < now' → J1 0 29 = 0 → i ≤ now' → ((last = -1 ∧ pst 49 I1 J1 L1' nl nt lam h true (lam + (now' - now)) s rho nc nc' nr nr' n k) ∨ ∃ la, last = nI la ∧ chP 49 I1 J1 L1' nl nt lam h true (lam + (now' - now)) s rho 7 nc nc' nr nr' n k la) → jW2 (jv (d + 1) 25 11 [some (.ref 27), some (.int D), some (.int (nI n)), some (.int last), some (.int (nI i)), o5, o6] [] (shC, I1, L1, pX pa pb (some 49) pw)) (jv (e + 1) 270 6 [some (.ref 0), some (.int D'), some (.int (nI k)), o3] [] (shR, J1, L1', pR)) (eQ 49 T K P nl nt lam s rho (h + 1) true now nc nr I L J L' (pX pa pb (some 49) pw)) := by
  intro r
  induction r with
  | zero => intro now' nc' nr' n k i last I1 J1 L1 L1' o3 o5 o6 hr; exact absurd hr (Nat.not_lt_zero _)
  | succ r ih =>
    intro now' nc' nr' n k i last I1 J1 L1 L1' o3 o5 o6 hr st lt h29 hi hp
    by_cases h12 : K now' = 43 ∨ K now' = 45
    case neg => exact sum_e49 ok st lt h29 hp (fun z => h12 (Or.inl z)) (fun z => h12 (Or.inr z))
    have hg : 49 = 38 ∨ 49 = 49 := by decide
    have tk := eSt.tk hg st ok.1
    have hT := ok.1.1
    have ltT : now' < T := by rcases h12 with z | z <;> exact tk.lt st.2.2.2.1 z (by decide)
    obtain ⟨b1, b2, b3, b4, b5, b6, b7, b8, b9, b10, b11, b12, b13, b14, b15⟩ := id st
    have hnc := ok.2.2.2.2.2.1
    have hnr := ok.2.2.2.2.2.2.1
    have kq := tk.2.2.2.1 now' b4
    -- the first program's step
    have cs : jv (d + 1) 25 11 [some (.ref 27), some (.int D), some (.int (nI n)), some (.int last), some (.int (nI i)), o5, o6] [] (shC, I1, L1, pX pa pb (some 49) pw) = jgo jTT jMM (d + 1) 26 [.ref 27, .int D] (shC, j_up I1 27 7 (nI (now' + 1)), L1, pX pa pb (some 49) pw) (fun v S => jv (d + 1) 25 73 [some (.ref 27), some (.int D), some (.int (nI n)), some (.int last), some (.int (nI i)), some (.int (nI (K now'))), o6] (v.toList ++ [.int (nI n), .int (nI (K now')), .int 7, .ref 49]) S) := by
      have s38 : jv (d + 1) 25 38 [some (.ref 27), some (.int D), some (.int (nI n)), some (.int last), some (.int (nI i)), o5, o6] [] (shC, I1, L1, pX pa pb (some 49) pw) = jgo jTT jMM (d + 1) 26 [.ref 27, .int D] (shC, j_up I1 27 7 (nI (now' + 1)), L1, pX pa pb (some 49) pw) (fun v S => jv (d + 1) 25 73 [some (.ref 27), some (.int D), some (.int (nI n)), some (.int last), some (.int (nI i)), some (.int (nI (K now'))), o6] (v.toList ++ [.int (nI n), .int (nI (K now')), .int 7, .ref 49]) S) := by
        rw [B25_38_g49, b10, if_pos (j_in_nI (by omega) (by decide)), nI_clamp (by omega), kq.1, show nI now' + 1 = nI (now' + 1) from nI_add now' 1]
      rw [B25_11_g49, tk.2.1, if_pos (nI_lt (by omega) (by omega)), show (43 : Int32) = nI 43 from rfl, jgo_some (d := d) rfl (now_c tk b4 b9 b10 (k := 43) (by decide))]
      dsimp only [Option.toList_some, Option.toList_none, List.cons_append, List.nil_append]
      rw [B25_26_g49]
      by_cases z : K now' = 43
      · rw [if_pos z, if_neg (by decide), s38]
      · rw [if_neg z, if_pos rfl, show (45 : Int32) = nI 45 from rfl, jgo_some (d := d) rfl (now_c tk b4 b9 b10 (k := 45) (by decide)), if_pos (h12.resolve_left z)]
        dsimp only [Option.toList_some, Option.toList_none, List.cons_append, List.nil_append]
        rw [B25_35_g49, if_neg (by decide), s38]
    have rs : ∃ wh : Int32, opC 7 (nI (K now')) wh ∧ jv (e + 1) 270 6 [some (.ref 0), some (.int D'), some (.int (nI k)), o3] [] (shR, J1, L1', pR) = jgo jTT jMM (e + 1) 271 [.ref 0, .int D'] (shR, j_up J1 0 28 (nI (now' + 1)), L1', pR) (fun v S => jv (e + 1) 270 66 [some (.ref 0), some (.int D'), some (.int (nI k)), some (.int wh)] (v.toList ++ [.int (nI k), .int wh, .ref 0]) S) := by
      have i1 := is_r (e := e) tk b4 b14 (k := 43) (by decide)
      have i2 := is_r (e := e) tk b4 b14 (k := 45) (by decide)
      rw [show nI (kR 43) = (43 : Int32) from rfl] at i1
      rw [show nI (kR 45) = (45 : Int32) from rfl] at i2
      by_cases z : K now' = 43
      · rw [if_pos z] at i1
        refine ⟨12, ?_, ?_⟩
        · rw [z]; unfold opC; decide
        · rw [B270_6, if_pos h29, jgo_some (d := e) rfl i1]
          dsimp only [Option.toList_some, Option.toList_none, List.cons_append, List.nil_append]
          rw [B270_19, if_neg (by decide), B270_31, jgo_some (d := e) rfl i1]
          dsimp only [Option.toList_some, Option.toList_none, List.cons_append, List.nil_append]
          rw [B270_37, if_neg (by decide), B270_47, b14, show nI now' + 1 = nI (now' + 1) from nI_add now' 1]
      · have z2 := h12.resolve_left z
        rw [if_neg z] at i1
        rw [if_pos z2] at i2
        refine ⟨13, ?_, ?_⟩
        · rw [z2]; unfold opC; decide
        · rw [B270_6, if_pos h29, jgo_some (d := e) rfl i1]
          dsimp only [Option.toList_some, Option.toList_none, List.cons_append, List.nil_append]
          rw [B270_19, if_pos rfl, jgo_some (d := e) rfl i2]
          dsimp only [Option.toList_some, Option.toList_none, List.cons_append, List.nil_append]
          rw [B270_28, if_neg (by decide), B270_31, jgo_some (d := e) rfl i1]
          dsimp only [Option.toList_some, Option.toList_none, List.cons_append, List.nil_append]
          rw [B270_37, if_pos rfl, B270_47, b14, show nI now' + 1 = nI (now' + 1) from nI_add now' 1]
    obtain ⟨wh, hwh, rs⟩ := rs
    rw [cs, rs]
    have st1 := eSt.adv hg st ltT
    have ok1 : pOk 49 T K P W U Q nm kd nb nl nt nu s cw rho (now' + 1) nc' nr' (j_up I1 27 7 (nI (now' + 1))) L1 (j_up J1 0 28 (nI (now' + 1))) L1' := eSt.ok hg ok st1 (by rw [j_up_own, if_neg (by decide), h29])
    refine jW2_go rfl rfl (H _ _ _ _ _ _ _ ok1) ?_
    rintro v S w S' ⟨I2, L2, J2, L2', x, y, rfl, rfl, rfl, rfl, hh⟩
    dsimp only [Option.toList_some, Option.toList_none, List.cons_append, List.nil_append]
    rw [B25_73_g49, B270_66]
    rcases hh with ⟨now2, nc2, nr2, n2, k2, lt2, st2, rfl, rfl, hh⟩ | ⟨now1, nc1, now2, nr2, hf⟩
    · -- no fault in the first
      obtain ⟨_, _, a3, a4, a5, a6, a7, a8, a9, a10, a11, a12, a13, a14, a15⟩ := id st2
      have st3 := eSt.trans st1 st2
      have st4 := eSt.add hg st3 (by omega) (by omega) 7 (nI (K now')) (nI n) (nI n2) (-1) wh (nI k) (nI k2) 0 0
      have c94 := add_c49 (d := d) (L := L2) (pa := pa) (pb := pb) (pu := some 49) (pw := pw) a12 (show nc2 < 1201 by omega) 7 (nI (K now')) (nI n) (nI n2) (-1)
      have r66 := node_r (e := e) (L' := L2') a15 (show nr2 < 1400 by omega) wh (nI k) (nI k2) 0 0
      rw [jgo_some (d := d) rfl c94, jgo_some (d := e) rfl r66]
      dsimp only [Option.toList_some, Option.toList_none, List.cons_append, List.nil_append]
      rw [B25_77_g49, B270_71]
      have f27 : ∀ c i, c ≠ 27 → c ≠ 0 → j_up I1 27 7 (nI (now' + 1)) c i = I1 c i := fun c i h1 _ => by rw [j_up_cell _ h1]
      have g1 : ∀ c, c < 5 → ∀ i, nc ≤ i → i < nc' → I2 (49 + 1 + c) i = I1 (49 + 1 + c) i := fun c hc i _ i2 => by rw [st2.1.2.2.1 c hc i i2, f27 _ _ (by omega) (by omega)]
      have g2 : ∀ c, c < 4 → ∀ i, nr ≤ i → i < nr' → J2 (21 + c) i = J1 (21 + c) i := fun c hc i _ i2 => by rw [st2.2.1.2.1 c hc i i2, j_up_cell _ (by omega)]
      have g3 : ∀ i, nr ≤ i → i < nr' → L2' 25 i = L1' 25 i := fun i _ i2 => st2.2.1.2.2.2.2.2.1 i i2
      -- the join
      have jn : ∃ (n3 la3 : Nat) (I3 : Nat → Nat → Int32), jv d 23 0 [some (.ref 27), some (.int (nI n)), some (.int last), some (.int (nI nc2))] [] (shC, adC 49 I2 nc2 7 (nI (K now')) (nI n) (nI n2) (-1), L2, pX pa pb (some 49) pw) = some (some (.int (nI n3)), (shC, I3, L2, pX pa pb (some 49) pw)) ∧ eSt 49 T s now nc nr I L J L' now2 (nc2 + 1) (nr2 + 1) I3 L2 (adR J2 nr2 wh (nI k) (nI k2) 0) (j_up L2' 25 nr2 0) ∧ (pst 49 I2 J2 L2' nl nt lam h true (lam + (now2 - (now' + 1))) s rho nc' nc2 nr' nr2 n2 k2 → chP 49 I3 (adR J2 nr2 wh (nI k) (nI k2) 0) (j_up L2' 25 nr2 0) nl nt lam h true (lam + (now2 - now)) s rho 7 nc (nc2 + 1) nr (nr2 + 1) n3 nr2 nc2) := by
        rcases hp with ⟨rfl, hp⟩ | ⟨la, rfl, hp⟩
        · exact ⟨nc2, nc2, _, join_n49 _ _, st4, fun z => chP.first (by omega) (by omega) hwh hp z (by omega) (by omega) b5 a5 b6 a6 g1 g2 g3 0⟩
        · obtain ⟨_, l1, l2, _⟩ := id hp
          exact ⟨n, nc2, _, join_c49 (show la < 1201 by omega) _ _, eSt.third hg st4 l1 _, fun z => chP.next (by omega) (by omega) hwh hp z (by omega) (by omega) b5 a5 b6 a6 g1 g2 g3 0 _⟩
      obtain ⟨n3, la3, I3, j1, j2, j3⟩ := jn
      rw [jgo_some (d := d) rfl j1]
      dsimp only [Option.toList_some, Option.toList_none, List.cons_append, List.nil_append]
      rw [B25_87_g49, show nI i + 1 = nI (i + 1) from nI_add i 1]
      rcases hh with ⟨h29', hp2⟩ | ⟨h40, h29', h30'⟩
      · exact ih now2 (nc2 + 1) (nr2 + 1) n3 nr2 (i + 1) (nI nc2) I3 _ L2 _ _ _ _ (by omega) j2 (by omega) (by rw [(adR_at nr2 wh (nI k) (nI k2) 0).2.2.2.2.2.2.1 29 (by decide)]; exact h29') (by omega) (Or.inr ⟨nc2, rfl, j3 hp2⟩)
      · have tk3 := eSt.tk hg j2 ok.1
        have r29 : adR J2 nr2 wh (nI k) (nI k2) 0 0 29 = 2 := by rw [(adR_at nr2 wh (nI k) (nI k2) 0).2.2.2.2.2.2.1 29 (by decide)]; exact h29'
        have r30 : adR J2 nr2 wh (nI k) (nI k2) 0 0 30 = nI (P now2) := by rw [(adR_at nr2 wh (nI k) (nI k2) 0).2.2.2.2.2.2.1 30 (by decide)]; exact h30'
        have xx := sum_x49 (d := d) (e := e) (i := i + 1) (now' := now2) (D := D) (D' := D') (x := nI n3) (y := nI nr2) (last := nI nc2) (o3 := some (.int wh)) (o5 := some (.int (nI (K now')))) (o6 := some (.int (nI nc2))) (I1 := I3) (J1 := adR J2 nr2 wh (nI k) (nI k2) 0) (L1 := L2) (L1' := j_up L2' 25 nr2 0) (pa := pa) (pb := pb) (pw := pw)
          (fun κ hκ => by rw [now_c tk3 j2.2.2.2.1 j2.2.2.2.2.2.2.2.2.1 j2.2.2.2.2.2.2.2.2.2.1 (by omega), if_neg (by rw [h40]; omega)])
          (Or.inl (by rw [r29]; decide))
        rw [xx.1, xx.2]
        exact jW2_some (eQ.pd (by omega) j2 h40 r29 r30)
    · -- a fault
      have hf1 := eF.pre st1 hf
      have fc := hf1.f
      have q1 := hf1.2.2.2.2.2.2.2.1
      have q2 := hf1.2.2.2.2.2.2.1
      have q3 := hf1.2.2.2.2.2.2.2.2.2.2.2.2.2
      have q4 := hf1.2.2.2.2.2.2.2.2.2.2.2.2.1
      have q5 := hf1.2.2.2.2.2.2.2.2.2.1
      have q6 := hf.2.2.2.2.2.2.2.2.2.2.2.2.1
      have r66 := node_r (e := e) (L' := L2') q3 (show nr2 < 1400 by omega) wh (nI k) y 0 0
      rw [jgo_some (d := e) rfl r66]
      dsimp only [Option.toList_some, Option.toList_none, List.cons_append, List.nil_append]
      rw [B270_71]
      have hf2 := eF.addR hf1 (by omega) wh (nI k) y 0 0
      have jn : ∃ (x3 l3 : Int32) (nc3 : Nat) (I3 : Nat → Nat → Int32), jgo jTT jMM (d + 1) 94 [.ref 49, .int 7, .int (nI (K now')), .int (nI n), .int x, .int (-1)] (shC, I2, L2, pX pa pb (some 49) pw) (fun v S => jv (d + 1) 25 77 [some (.ref 27), some (.int D), some (.int (nI n)), some (.int last), some (.int (nI i)), some (.int (nI (K now'))), o6] (v.toList ++ []) S) = jv (d + 1) 25 87 [some (.ref 27), some (.int D), some (.int (nI n)), some (.int last), some (.int (nI i)), some (.int (nI (K now'))), some (.int l3)] [.int x3] (shC, I3, L2, pX pa pb (some 49) pw) ∧ eF 49 T s now nc nr I L J L' now1 nc3 now2 (nr2 + 1) I3 L2 (adR J2 nr2 wh (nI k) y 0) (j_up L2' 25 nr2 0) := by
        rcases Nat.lt_or_eq_of_le q2 with z | z
        · rw [jgo_some (d := d) rfl (add_c49 q1 z _ _ _ _ _)]
          dsimp only [Option.toList_some, Option.toList_none, List.cons_append, List.nil_append]
          rw [B25_77_g49]
          have hf3 := eF.addC hg hf2 z 7 (nI (K now')) (nI n) x (-1)
          rcases hp with ⟨rfl, hp⟩ | ⟨la, rfl, hp⟩
          · exact ⟨_, _, _, _, by rw [jgo_some (d := d) rfl (join_n49 _ _)]; rfl, hf3⟩
          · obtain ⟨_, l1, l2, _⟩ := id hp
            exact ⟨_, _, _, _, by rw [jgo_some (d := d) rfl (join_c49 (show la < 1201 by omega) _ _)]; rfl, eF.third hg hf3 l1 _⟩
        · rw [jgo_some (d := d) rfl (add_f49 (by rw [q1, z]) _ _ _ _ _)]
          dsimp only [Option.toList_some, Option.toList_none, List.cons_append, List.nil_append]
          rw [B25_77_g49]
          rcases hp with ⟨rfl, hp⟩ | ⟨la, rfl, hp⟩
          · exact ⟨_, _, _, _, by rw [jgo_some (d := d) rfl (join_n49 _ _)]; rfl, hf2⟩
          · obtain ⟨_, l1, l2, _⟩ := id hp
            exact ⟨_, _, _, _, by rw [jgo_some (d := d) rfl (join_c49 (show la < 1201 by omega) _ _)]; rfl, eF.third hg hf2 l1 _⟩
      obtain ⟨x3, l3, nc3, I3, j1, j2⟩ := jn
      rw [j1, B25_87_g49, show nI i + 1 = nI (i + 1) from nI_add i 1]
      have xx := sum_x49 (d := d) (e := e) (i := i + 1) (now' := now2) (D := D) (D' := D') (x := x3) (y := nI nr2) (last := l3) (o3 := some (.int wh)) (o5 := some (.int (nI (K now')))) (o6 := some (.int l3)) (I1 := I3) (J1 := adR J2 nr2 wh (nI k) y 0) (L1 := L2) (L1' := j_up L2' 25 nr2 0) (pa := pa) (pb := pb) (pw := pw)
          (fun κ hκ => now_cf j2.f.1 _) (Or.inl j2.f.2)
      rw [xx.1, xx.2]
      exact jW2_some (eQ.f j2 _ _)
theorem sum_sim49 {d e h : Nat} {D D' : Int32} (H : ∀ (I : Nat → Nat → Int32) (L : Nat → Nat → Int64) (J : Nat → Nat → Int32) (L' : Nat → Nat → Int64) (now nc nr : Nat), pOk 49 T K P W U Q nm kd nb nl nt nu s cw rho now nc nr I L J L' → jW2 (jv d 26 0 [some (.ref 27), some (.int D), none, none, none, none, none] [] (shC, I, L, pX pa pb (some 49) pw)) (jv e 271 0 [some (.ref 0), some (.int D'), none, none] [] (shR, J, L', pR)) (eQ 49 T K P nl nt lam s rho h true now nc nr I L J L' (pX pa pb (some 49) pw))) {I J : Nat → Nat → Int32} {L L' : Nat → Nat → Int64} {now nc nr : Nat} (ok : pOk 49 T K P W U Q nm kd nb nl nt nu s cw rho now nc nr I L J L') : jW2 (jv (d + 1) 25 0 [some (.ref 27), some (.int D), none, none, none, none, none] [] (shC, I, L, pX pa pb (some 49) pw)) (jv (e + 1) 270 0 [some (.ref 0), some (.int D'), none, none] [] (shR, J, L', pR)) (eQ 49 T K P nl nt lam s rho (h + 1) true now nc nr I L J L' (pX pa pb (some 49) pw)) := by
  have hg : 49 = 38 ∨ 49 = 49 := by decide
  rw [B25_0_g49, B270_0]
  refine jW2_go rfl rfl (H _ _ _ _ _ _ _ ok) ?_
  rintro v S w S' ⟨I2, L2, J2, L2', x, y, rfl, rfl, rfl, rfl, hh⟩
  dsimp only [Option.toList_some, Option.toList_none, List.cons_append, List.nil_append]
  rw [B25_5_g49, B270_5]
  rcases hh with ⟨now2, nc2, nr2, n2, k2, lt2, st2, rfl, rfl, hh⟩ | ⟨now1, nc1, now2, nr2, hf⟩
  · rcases hh with ⟨h29', hp2⟩ | ⟨h40, h29', h30'⟩
    · exact sum_l49 H ok (T - now2 + 1) now2 nc2 nr2 n2 k2 0 (-1) I2 J2 L2 L2' _ _ _ (by omega) st2 lt2 h29' (by omega) (Or.inl ⟨rfl, hp2⟩)
    · have tk3 := eSt.tk hg st2 ok.1
      have xx := sum_x49 (d := d) (e := e) (i := 0) (now' := now2) (D := D) (D' := D') (x := nI n2) (y := nI k2) (last := -1) (o3 := none) (o5 := none) (o6 := none) (I1 := I2) (J1 := J2) (L1 := L2) (L1' := L2') (pa := pa) (pb := pb) (pw := pw)
          (fun κ hκ => by rw [now_c tk3 st2.2.2.2.1 st2.2.2.2.2.2.2.2.2.1 st2.2.2.2.2.2.2.2.2.2.1 (by omega), if_neg (by rw [h40]; omega)])
          (Or.inl (by rw [h29']; decide))
      rw [show (0 : Int32) = nI 0 from rfl, xx.1, xx.2]
      exact jW2_some (eQ.pd lt2 st2 h40 h29' h30')
  · have xx := sum_x49 (d := d) (e := e) (i := 0) (now' := now2) (D := D) (D' := D') (x := x) (y := y) (last := -1) (o3 := none) (o5 := none) (o6 := none) (I1 := I2) (J1 := J2) (L1 := L2) (L1' := L2') (pa := pa) (pb := pb) (pw := pw)
          (fun κ hκ => now_cf hf.f.1 _) (Or.inl hf.f.2)
    rw [show (0 : Int32) = nI 0 from rfl, xx.1, xx.2]
    exact jW2_some (eQ.f hf _ _)
/-- no operator stands here: the loops end -/
theorem prod_x49 {d e i now' : Nat} {D D' x y last : Int32} {o3 o5 o6 : Option Value} {I1 J1 : Nat → Nat → Int32} {L1 L1' : Nat → Nat → Int64} (hc : ∀ κ, κ = 42 ∨ κ = 47 → jv d 8 0 [some (.ref 27), some (.int (nI κ))] [] (shC, I1, L1, pX pa pb (some 49) pw) = some (some (.int 0), (shC, I1, L1, pX pa pb (some 49) pw))) (hr : J1 0 29 ≠ 0 ∨ ∀ κ, κ = 42 ∨ κ = 47 → jv e 258 0 [some (.ref 0), some (.int (nI κ))] [] (shR, J1, L1', pR) = some (some (.int 0), (shR, J1, L1', pR))) : jv (d + 1) 26 11 [some (.ref 27), some (.int D), some (.int x), some (.int last), some (.int (nI i)), o5, o6] [] (shC, I1, L1, pX pa pb (some 49) pw) = some (some (.int x), (shC, I1, L1, pX pa pb (some 49) pw)) ∧ jv (e + 1) 271 6 [some (.ref 0), some (.int D'), some (.int y), o3] [] (shR, J1, L1', pR) = some (some (.int y), (shR, J1, L1', pR)) := by
  constructor
  · rw [B26_11_g49]
    by_cases q : nI i < I1 27 6
    · rw [if_pos q, show (42 : Int32) = nI 42 from rfl, jgo_some (d := d) rfl (hc 42 (Or.inl rfl))]
      dsimp only [Option.toList_some, Option.toList_none, List.cons_append, List.nil_append]
      rw [B26_26_g49, if_pos rfl, show (47 : Int32) = nI 47 from rfl, jgo_some (d := d) rfl (hc 47 (Or.inr rfl))]
      dsimp only [Option.toList_some, Option.toList_none, List.cons_append, List.nil_append]
      rw [B26_35_g49, if_pos rfl, B26_97_g49]
    · rw [if_neg q, B26_97_g49]
  · rw [B271_6]
    by_cases z : J1 0 29 = 0
    · rcases hr with q | q
      · exact absurd z q
      · rw [if_pos z, show (42 : Int32) = nI 42 from rfl, jgo_some (d := e) rfl (q 42 (Or.inl rfl))]
        dsimp only [Option.toList_some, Option.toList_none, List.cons_append, List.nil_append]
        rw [B271_19, if_pos rfl, show (47 : Int32) = nI 47 from rfl, jgo_some (d := e) rfl (q 47 (Or.inr rfl))]
        dsimp only [Option.toList_some, Option.toList_none, List.cons_append, List.nil_append]
        rw [B271_28, if_pos rfl, B271_75]
    · rw [if_neg z, B271_75]
theorem prod_e49 {d e h : Nat} {D D' : Int32} {I J : Nat → Nat → Int32} {L L' : Nat → Nat → Int64} {now nc nr : Nat} (ok : pOk 49 T K P W U Q nm kd nb nl nt nu s cw rho now nc nr I L J L') {now' nc' nr' n k i : Nat} {last : Int32} {I1 J1 : Nat → Nat → Int32} {L1 L1' : Nat → Nat → Int64} {o3 o5 o6 : Option Value} (st : eSt 49 T s now nc nr I L J L' now' nc' nr' I1 L1 J1 L1') (lt : now < now') (h29 : J1 0 29 = 0) (hp : (last = -1 ∧ pst 49 I1 J1 L1' nl nt lam h true (lam + (now' - now)) s rho nc nc' nr nr' n k) ∨ ∃ la, last = nI la ∧ chP 49 I1 J1 L1' nl nt lam h true (lam + (now' - now)) s rho 7 nc nc' nr nr' n k la) (h1 : K now' ≠ 42) (h2 : K now' ≠ 47) : jW2 (jv (d + 1) 26 11 [some (.ref 27), some (.int D), some (.int (nI n)), some (.int last), some (.int (nI i)), o5, o6] [] (shC, I1, L1, pX pa pb (some 49) pw)) (jv (e + 1) 271 6 [some (.ref 0), some (.int D'), some (.int (nI k)), o3] [] (shR, J1, L1', pR)) (eQ 49 T K P nl nt lam s rho (h + 1) true now nc nr I L J L' (pX pa pb (some 49) pw)) := by
  have tk := eSt.tk (by decide) st ok.1
  have np : pst 49 I1 J1 L1' nl nt lam (h + 1) true (lam + (now' - now)) s rho nc nc' nr nr' n k := by
    rcases hp with ⟨_, z⟩ | ⟨la, _, z⟩
    · exact z.frame (by omega) (Nat.le_refl _) (Nat.le_refl _) (Nat.le_refl _) (Nat.le_refl _) (Nat.le_refl _) (fun _ _ _ _ _ => rfl) (fun _ _ _ _ _ => rfl) (fun _ _ _ => rfl)
    · exact z.done (Or.inl ⟨rfl, rfl⟩)
  have xx := prod_x49 (d := d) (e := e) (i := i) (now' := now') (D := D) (D' := D') (x := nI n) (y := nI k) (last := last) (o3 := o3) (o5 := o5) (o6 := o6) (I1 := I1) (J1 := J1) (L1 := L1) (L1' := L1') (pa := pa) (pb := pb) (pw := pw)
    (fun κ hκ => by rw [now_c tk st.2.2.2.1 st.2.2.2.2.2.2.2.2.1 st.2.2.2.2.2.2.2.2.2.1 (by omega), if_neg (by rcases hκ with z | z <;> rw [z] <;> assumption)])
    (Or.inr (fun κ hκ => by
      have := is_r (e := e) tk st.2.2.2.1 st.2.2.2.2.2.2.2.2.2.2.2.2.2.1 (k := κ) (by rcases hκ with z | z <;> rw [z] <;> decide)
      rw [if_neg (by rcases hκ with z | z <;> rw [z] <;> assumption), show kR κ = κ by rcases hκ with z | z <;> rw [z] <;> decide] at this
      exact this))
  rw [xx.1, xx.2]
  exact jW2_some (eQ.ok lt st h29 np)
theorem prod_l49 {d e h : Nat} {D D' : Int32} (H : ∀ (I : Nat → Nat → Int32) (L : Nat → Nat → Int64) (J : Nat → Nat → Int32) (L' : Nat → Nat → Int64) (now nc nr : Nat), pOk 49 T K P W U Q nm kd nb nl nt nu s cw rho now nc nr I L J L' → jW2 (jv d 27 0 [some (.ref 27), some (.int D), none] [] (shC, I, L, pX pa pb (some 49) pw)) (jv e 272 0 [some (.ref 0), some (.int D'), none, none, none, none] [] (shR, J, L', pR)) (eQ 49 T K P nl nt lam s rho h true now nc nr I L J L' (pX pa pb (some 49) pw))) {I J : Nat → Nat → Int32} {L L' : Nat → Nat → Int64} {now nc nr : Nat} (ok : pOk 49 T K P W U Q nm kd nb nl nt nu s cw rho now nc nr I L J L') : ∀ (r now' nc' nr' n k i : Nat) (last : Int32) (I1 J1 : Nat → Nat → Int32) (L1 L1' : Nat → Nat → Int64) (o3 o5 o6 : Option Value), T - now' < r → eSt 49 T s now nc nr I L J L' now' nc' nr' I1 L1 J1 L1' → now < now' → J1 0 29 = 0 → i ≤ now' → ((last = -1 ∧ pst 49 I1 J1 L1' nl nt lam h true (lam + (now' - now)) s rho nc nc' nr nr' n k) ∨ ∃ la, last = nI la ∧ chP 49 I1 J1 L1' nl nt lam h true (lam + (now' - now)) s rho 7 nc nc' nr nr' n k la) → jW2 (jv (d + 1) 26 11 [some (.ref 27), some (.int D), some (.int (nI n)), some (.int last), some (.int (nI i)), o5, o6] [] (shC, I1, L1, pX pa pb (some 49) pw)) (jv (e + 1) 271 6 [some (.ref 0), some (.int D'), some (.int (nI k)), o3] [] (shR, J1, L1', pR)) (eQ 49 T K P nl nt lam s rho (h + 1) true now nc nr I L J L' (pX pa pb (some 49) pw)) := by
  intro r
  induction r with
  | zero => intro now' nc' nr' n k i last I1 J1 L1 L1' o3 o5 o6 hr; exact absurd hr (Nat.not_lt_zero _)
  | succ r ih =>
    intro now' nc' nr' n k i last I1 J1 L1 L1' o3 o5 o6 hr st lt h29 hi hp
    by_cases h12 : K now' = 42 ∨ K now' = 47
    case neg => exact prod_e49 ok st lt h29 hp (fun z => h12 (Or.inl z)) (fun z => h12 (Or.inr z))
    have hg : 49 = 38 ∨ 49 = 49 := by decide
    have tk := eSt.tk hg st ok.1
    have hT := ok.1.1
    have ltT : now' < T := by rcases h12 with z | z <;> exact tk.lt st.2.2.2.1 z (by decide)
    obtain ⟨b1, b2, b3, b4, b5, b6, b7, b8, b9, b10, b11, b12, b13, b14, b15⟩ := id st
    have hnc := ok.2.2.2.2.2.1
    have hnr := ok.2.2.2.2.2.2.1
    have kq := tk.2.2.2.1 now' b4
    -- the first program's step
    have cs : jv (d + 1) 26 11 [some (.ref 27), some (.int D), some (.int (nI n)), some (.int last), some (.int (nI i)), o5, o6] [] (shC, I1, L1, pX pa pb (some 49) pw) = jgo jTT jMM (d + 1) 27 [.ref 27, .int D] (shC, j_up I1 27 7 (nI (now' + 1)), L1, pX pa pb (some 49) pw) (fun v S => jv (d + 1) 26 73 [some (.ref 27), some (.int D), some (.int (nI n)), some (.int last), some (.int (nI i)), some (.int (nI (K now'))), o6] (v.toList ++ [.int (nI n), .int (nI (K now')), .int 7, .ref 49]) S) := by
      have s38 : jv (d + 1) 26 38 [some (.ref 27), some (.int D), some (.int (nI n)), some (.int last), some (.int (nI i)), o5, o6] [] (shC, I1, L1, pX pa pb (some 49) pw) = jgo jTT jMM (d + 1) 27 [.ref 27, .int D] (shC, j_up I1 27 7 (nI (now' + 1)), L1, pX pa pb (some 49) pw) (fun v S => jv (d + 1) 26 73 [some (.ref 27), some (.int D), some (.int (nI n)), some (.int last), some (.int (nI i)), some (.int (nI (K now'))), o6] (v.toList ++ [.int (nI n), .int (nI (K now')), .int 7, .ref 49]) S) := by
        rw [B26_38_g49, b10, if_pos (j_in_nI (by omega) (by decide)), nI_clamp (by omega), kq.1, show nI now' + 1 = nI (now' + 1) from nI_add now' 1]
      rw [B26_11_g49, tk.2.1, if_pos (nI_lt (by omega) (by omega)), show (42 : Int32) = nI 42 from rfl, jgo_some (d := d) rfl (now_c tk b4 b9 b10 (k := 42) (by decide))]
      dsimp only [Option.toList_some, Option.toList_none, List.cons_append, List.nil_append]
      rw [B26_26_g49]
      by_cases z : K now' = 42
      · rw [if_pos z, if_neg (by decide), s38]
      · rw [if_neg z, if_pos rfl, show (47 : Int32) = nI 47 from rfl, jgo_some (d := d) rfl (now_c tk b4 b9 b10 (k := 47) (by decide)), if_pos (h12.resolve_left z)]
        dsimp only [Option.toList_some, Option.toList_none, List.cons_append, List.nil_append]
        rw [B26_35_g49, if_neg (by decide), s38]
    have rs : ∃ wh : Int32, opC 7 (nI (K now')) wh ∧ jv (e + 1) 271 6 [some (.ref 0), some (.int D'), some (.int (nI k)), o3] [] (shR, J1, L1', pR) = jgo jTT jMM (e + 1) 272 [.ref 0, .int D'] (shR, j_up J1 0 28 (nI (now' + 1)), L1', pR) (fun v S => jv (e + 1) 271 66 [some (.ref 0), some (.int D'), some (.int (nI k)), some (.int wh)] (v.toList ++ [.int (nI k), .int wh, .ref 0]) S) := by
      have i1 := is_r (e := e) tk b4 b14 (k := 42) (by decide)
      have i2 := is_r (e := e) tk b4 b14 (k := 47) (by decide)
      rw [show nI (kR 42) = (42 : Int32) from rfl] at i1
      rw [show nI (kR 47) = (47 : Int32) from rfl] at i2
      by_cases z : K now' = 42
      · rw [if_pos z] at i1
        refine ⟨14, ?_, ?_⟩
        · rw [z]; unfold opC; decide
        · rw [B271_6, if_pos h29, jgo_some (d := e) rfl i1]
          dsimp only [Option.toList_some, Option.toList_none, List.cons_append, List.nil_append]
          rw [B271_19, if_neg (by decide), B271_31, jgo_some (d := e) rfl i1]
          dsimp only [Option.toList_some, Option.toList_none, List.cons_append, List.nil_append]
          rw [B271_37, if_neg (by decide), B271_47, b14, show nI now' + 1 = nI (now' + 1) from nI_add now' 1]
      · have z2 := h12.resolve_left z
        rw [if_neg z] at i1
        rw [if_pos z2] at i2
        refine ⟨15, ?_, ?_⟩
        · rw [z2]; unfold opC; decide
        · rw [B271_6, if_pos h29, jgo_some (d := e) rfl i1]
          dsimp only [Option.toList_some, Option.toList_none, List.cons_append, List.nil_append]
          rw [B271_19, if_pos rfl, jgo_some (d := e) rfl i2]
          dsimp only [Option.toList_some, Option.toList_none, List.cons_append, List.nil_append]
          rw [B271_28, if_neg (by decide), B271_31, jgo_some (d := e) rfl i1]
          dsimp only [Option.toList_some, Option.toList_none, List.cons_append, List.nil_append]
          rw [B271_37, if_pos rfl, B271_47, b14, show nI now' + 1 = nI (now' + 1) from nI_add now' 1]
    obtain ⟨wh, hwh, rs⟩ := rs
    rw [cs, rs]
    have st1 := eSt.adv hg st ltT
    have ok1 : pOk 49 T K P W U Q nm kd nb nl nt nu s cw rho (now' + 1) nc' nr' (j_up I1 27 7 (nI (now' + 1))) L1 (j_up J1 0 28 (nI (now' + 1))) L1' := eSt.ok hg ok st1 (by rw [j_up_own, if_neg (by decide), h29])
    refine jW2_go rfl rfl (H _ _ _ _ _ _ _ ok1) ?_
    rintro v S w S' ⟨I2, L2, J2, L2', x, y, rfl, rfl, rfl, rfl, hh⟩
    dsimp only [Option.toList_some, Option.toList_none, List.cons_append, List.nil_append]
    rw [B26_73_g49, B271_66]
    rcases hh with ⟨now2, nc2, nr2, n2, k2, lt2, st2, rfl, rfl, hh⟩ | ⟨now1, nc1, now2, nr2, hf⟩
    · -- no fault in the first
      obtain ⟨_, _, a3, a4, a5, a6, a7, a8, a9, a10, a11, a12, a13, a14, a15⟩ := id st2
      have st3 := eSt.trans st1 st2
      have st4 := eSt.add hg st3 (by omega) (by omega) 7 (nI (K now')) (nI n) (nI n2) (-1) wh (nI k) (nI k2) 0 0
      have c94 := add_c49 (d := d) (L := L2) (pa := pa) (pb := pb) (pu := some 49) (pw := pw) a12 (show nc2 < 1201 by omega) 7 (nI (K now')) (nI n) (nI n2) (-1)
      have r66 := node_r (e := e) (L' := L2') a15 (show nr2 < 1400 by omega) wh (nI k) (nI k2) 0 0
      rw [jgo_some (d := d) rfl c94, jgo_some (d := e) rfl r66]
      dsimp only [Option.toList_some, Option.toList_none, List.cons_append, List.nil_append]
      rw [B26_77_g49, B271_71]
      have f27 : ∀ c i, c ≠ 27 → c ≠ 0 → j_up I1 27 7 (nI (now' + 1)) c i = I1 c i := fun c i h1 _ => by rw [j_up_cell _ h1]
      have g1 : ∀ c, c < 5 → ∀ i, nc ≤ i → i < nc' → I2 (49 + 1 + c) i = I1 (49 + 1 + c) i := fun c hc i _ i2 => by rw [st2.1.2.2.1 c hc i i2, f27 _ _ (by omega) (by omega)]
      have g2 : ∀ c, c < 4 → ∀ i, nr ≤ i → i < nr' → J2 (21 + c) i = J1 (21 + c) i := fun c hc i _ i2 => by rw [st2.2.1.2.1 c hc i i2, j_up_cell _ (by omega)]
      have g3 : ∀ i, nr ≤ i → i < nr' → L2' 25 i = L1' 25 i := fun i _ i2 => st2.2.1.2.2.2.2.2.1 i i2
      -- the join
      have jn : ∃ (n3 la3 : Nat) (I3 : Nat → Nat → Int32), jv d 23 0 [some (.ref 27), some (.int (nI n)), some (.int last), some (.int (nI nc2))] [] (shC, adC 49 I2 nc2 7 (nI (K now')) (nI n) (nI n2) (-1), L2, pX pa pb (some 49) pw) = some (some (.int (nI n3)), (shC, I3, L2, pX pa pb (some 49) pw)) ∧ eSt 49 T s now nc nr I L J L' now2 (nc2 + 1) (nr2 + 1) I3 L2 (adR J2 nr2 wh (nI k) (nI k2) 0) (j_up L2' 25 nr2 0) ∧ (pst 49 I2 J2 L2' nl nt lam h true (lam + (now2 - (now' + 1))) s rho nc' nc2 nr' nr2 n2 k2 → chP 49 I3 (adR J2 nr2 wh (nI k) (nI k2) 0) (j_up L2' 25 nr2 0) nl nt lam h true (lam + (now2 - now)) s rho 7 nc (nc2 + 1) nr (nr2 + 1) n3 nr2 nc2) := by
        rcases hp with ⟨rfl, hp⟩ | ⟨la, rfl, hp⟩
        · exact ⟨nc2, nc2, _, join_n49 _ _, st4, fun z => chP.first (by omega) (by omega) hwh hp z (by omega) (by omega) b5 a5 b6 a6 g1 g2 g3 0⟩
        · obtain ⟨_, l1, l2, _⟩ := id hp
          exact ⟨n, nc2, _, join_c49 (show la < 1201 by omega) _ _, eSt.third hg st4 l1 _, fun z => chP.next (by omega) (by omega) hwh hp z (by omega) (by omega) b5 a5 b6 a6 g1 g2 g3 0 _⟩
      obtain ⟨n3, la3, I3, j1, j2, j3⟩ := jn
      rw [jgo_some (d := d) rfl j1]
      dsimp only [Option.toList_some, Option.toList_none, List.cons_append, List.nil_append]
      rw [B26_87_g49, show nI i + 1 = nI (i + 1) from nI_add i 1]
      rcases hh with ⟨h29', hp2⟩ | ⟨h40, h29', h30'⟩
      · exact ih now2 (nc2 + 1) (nr2 + 1) n3 nr2 (i + 1) (nI nc2) I3 _ L2 _ _ _ _ (by omega) j2 (by omega) (by rw [(adR_at nr2 wh (nI k) (nI k2) 0).2.2.2.2.2.2.1 29 (by decide)]; exact h29') (by omega) (Or.inr ⟨nc2, rfl, j3 hp2⟩)
      · have tk3 := eSt.tk hg j2 ok.1
        have r29 : adR J2 nr2 wh (nI k) (nI k2) 0 0 29 = 2 := by rw [(adR_at nr2 wh (nI k) (nI k2) 0).2.2.2.2.2.2.1 29 (by decide)]; exact h29'
        have r30 : adR J2 nr2 wh (nI k) (nI k2) 0 0 30 = nI (P now2) := by rw [(adR_at nr2 wh (nI k) (nI k2) 0).2.2.2.2.2.2.1 30 (by decide)]; exact h30'
        have xx := prod_x49 (d := d) (e := e) (i := i + 1) (now' := now2) (D := D) (D' := D') (x := nI n3) (y := nI nr2) (last := nI nc2) (o3 := some (.int wh)) (o5 := some (.int (nI (K now')))) (o6 := some (.int (nI nc2))) (I1 := I3) (J1 := adR J2 nr2 wh (nI k) (nI k2) 0) (L1 := L2) (L1' := j_up L2' 25 nr2 0) (pa := pa) (pb := pb) (pw := pw)
          (fun κ hκ => by rw [now_c tk3 j2.2.2.2.1 j2.2.2.2.2.2.2.2.2.1 j2.2.2.2.2.2.2.2.2.2.1 (by omega), if_neg (by rw [h40]; omega)])
          (Or.inl (by rw [r29]; decide))
        rw [xx.1, xx.2]
        exact jW2_some (eQ.pd (by omega) j2 h40 r29 r30)
    · -- a fault
      have hf1 := eF.pre st1 hf
      have fc := hf1.f
      have q1 := hf1.2.2.2.2.2.2.2.1
      have q2 := hf1.2.2.2.2.2.2.1
      have q3 := hf1.2.2.2.2.2.2.2.2.2.2.2.2.2
      have q4 := hf1.2.2.2.2.2.2.2.2.2.2.2.2.1
      have q5 := hf1.2.2.2.2.2.2.2.2.2.1
      have q6 := hf.2.2.2.2.2.2.2.2.2.2.2.2.1
      have r66 := node_r (e := e) (L' := L2') q3 (show nr2 < 1400 by omega) wh (nI k) y 0 0
      rw [jgo_some (d := e) rfl r66]
      dsimp only [Option.toList_some, Option.toList_none, List.cons_append, List.nil_append]
      rw [B271_71]
      have hf2 := eF.addR hf1 (by omega) wh (nI k) y 0 0
      have jn : ∃ (x3 l3 : Int32) (nc3 : Nat) (I3 : Nat → Nat → Int32), jgo jTT jMM (d + 1) 94 [.ref 49, .int 7, .int (nI (K now')), .int (nI n), .int x, .int (-1)] (shC, I2, L2, pX pa pb (some 49) pw) (fun v S => jv (d + 1) 26 77 [some (.ref 27), some (.int D), some (.int (nI n)), some (.int last), some (.int (nI i)), some (.int (nI (K now'))), o6] (v.toList ++ []) S) = jv (d + 1) 26 87 [some (.ref 27), some (.int D), some (.int (nI n)), some (.int last), some (.int (nI i)), some (.int (nI (K now'))), some (.int l3)] [.int x3] (shC, I3, L2, pX pa pb (some 49) pw) ∧ eF 49 T s now nc nr I L J L' now1 nc3 now2 (nr2 + 1) I3 L2 (adR J2 nr2 wh (nI k) y 0) (j_up L2' 25 nr2 0) := by
        rcases Nat.lt_or_eq_of_le q2 with z | z
        · rw [jgo_some (d := d) rfl (add_c49 q1 z _ _ _ _ _)]
          dsimp only [Option.toList_some, Option.toList_none, List.cons_append, List.nil_append]
          rw [B26_77_g49]
          have hf3 := eF.addC hg hf2 z 7 (nI (K now')) (nI n) x (-1)
          rcases hp with ⟨rfl, hp⟩ | ⟨la, rfl, hp⟩
          · exact ⟨_, _, _, _, by rw [jgo_some (d := d) rfl (join_n49 _ _)]; rfl, hf3⟩
          · obtain ⟨_, l1, l2, _⟩ := id hp
            exact ⟨_, _, _, _, by rw [jgo_some (d := d) rfl (join_c49 (show la < 1201 by omega) _ _)]; rfl, eF.third hg hf3 l1 _⟩
        · rw [jgo_some (d := d) rfl (add_f49 (by rw [q1, z]) _ _ _ _ _)]
          dsimp only [Option.toList_some, Option.toList_none, List.cons_append, List.nil_append]
          rw [B26_77_g49]
          rcases hp with ⟨rfl, hp⟩ | ⟨la, rfl, hp⟩
          · exact ⟨_, _, _, _, by rw [jgo_some (d := d) rfl (join_n49 _ _)]; rfl, hf2⟩
          · obtain ⟨_, l1, l2, _⟩ := id hp
            exact ⟨_, _, _, _, by rw [jgo_some (d := d) rfl (join_c49 (show la < 1201 by omega) _ _)]; rfl, eF.third hg hf2 l1 _⟩
      obtain ⟨x3, l3, nc3, I3, j1, j2⟩ := jn
      rw [j1, B26_87_g49, show nI i + 1 = nI (i + 1) from nI_add i 1]
      have xx := prod_x49 (d := d) (e := e) (i := i + 1) (now' := now2) (D := D) (D' := D') (x := x3) (y := nI nr2) (last := l3) (o3 := some (.int wh)) (o5 := some (.int (nI (K now')))) (o6 := some (.int l3)) (I1 := I3) (J1 := adR J2 nr2 wh (nI k) y 0) (L1 := L2) (L1' := j_up L2' 25 nr2 0) (pa := pa) (pb := pb) (pw := pw)
          (fun κ hκ => now_cf j2.f.1 _) (Or.inl j2.f.2)
      rw [xx.1, xx.2]
      exact jW2_some (eQ.f j2 _ _)
theorem prod_sim49 {d e h : Nat} {D D' : Int32} (H : ∀ (I : Nat → Nat → Int32) (L : Nat → Nat → Int64) (J : Nat → Nat → Int32) (L' : Nat → Nat → Int64) (now nc nr : Nat), pOk 49 T K P W U Q nm kd nb nl nt nu s cw rho now nc nr I L J L' → jW2 (jv d 27 0 [some (.ref 27), some (.int D), none] [] (shC, I, L, pX pa pb (some 49) pw)) (jv e 272 0 [some (.ref 0), some (.int D'), none, none, none, none] [] (shR, J, L', pR)) (eQ 49 T K P nl nt lam s rho h true now nc nr I L J L' (pX pa pb (some 49) pw))) {I J : Nat → Nat → Int32} {L L' : Nat → Nat → Int64} {now nc nr : Nat} (ok : pOk 49 T K P W U Q nm kd nb nl nt nu s cw rho now nc nr I L J L') : jW2 (jv (d + 1) 26 0 [some (.ref 27), some (.int D), none, none, none, none, none] [] (shC, I, L, pX pa pb (some 49) pw)) (jv (e + 1) 271 0 [some (.ref 0), some (.int D'), none, none] [] (shR, J, L', pR)) (eQ 49 T K P nl nt lam s rho (h + 1) true now nc nr I L J L' (pX pa pb (some 49) pw)) := by
  have hg : 49 = 38 ∨ 49 = 49 := by decide
  rw [B26_0_g49, B271_0]
  refine jW2_go rfl rfl (H _ _ _ _ _ _ _ ok) ?_
  rintro v S w S' ⟨I2, L2, J2, L2', x, y, rfl, rfl, rfl, rfl, hh⟩
  dsimp only [Option.toList_some, Option.toList_none, List.cons_append, List.nil_append]
  rw [B26_5_g49, B271_5]
  rcases hh with ⟨now2, nc2, nr2, n2, k2, lt2, st2, rfl, rfl, hh⟩ | ⟨now1, nc1, now2, nr2, hf⟩
  · rcases hh with ⟨h29', hp2⟩ | ⟨h40, h29', h30'⟩
    · exact prod_l49 H ok (T - now2 + 1) now2 nc2 nr2 n2 k2 0 (-1) I2 J2 L2 L2' _ _ _ (by omega) st2 lt2 h29' (by omega) (Or.inl ⟨rfl, hp2⟩)
    · have tk3 := eSt.tk hg st2 ok.1
      have xx := prod_x49 (d := d) (e := e) (i := 0) (now' := now2) (D := D) (D' := D') (x := nI n2) (y := nI k2) (last := -1) (o3 := none) (o5 := none) (o6 := none) (I1 := I2) (J1 := J2) (L1 := L2) (L1' := L2') (pa := pa) (pb := pb) (pw := pw)
          (fun κ hκ => by rw [now_c tk3 st2.2.2.2.1 st2.2.2.2.2.2.2.2.2.1 st2.2.2.2.2.2.2.2.2.2.1 (by omega), if_neg (by rw [h40]; omega)])
          (Or.inl (by rw [h29']; decide))
      rw [show (0 : Int32) = nI 0 from rfl, xx.1, xx.2]
      exact jW2_some (eQ.pd lt2 st2 h40 h29' h30')
  · have xx := prod_x49 (d := d) (e := e) (i := 0) (now' := now2) (D := D) (D' := D') (x := x) (y := y) (last := -1) (o3 := none) (o5 := none) (o6 := none) (I1 := I2) (J1 := J2) (L1 := L2) (L1' := L2') (pa := pa) (pb := pb) (pw := pw)
          (fun κ hκ => now_cf hf.f.1 _) (Or.inl hf.f.2)
    rw [show (0 : Int32) = nI 0 from rfl, xx.1, xx.2]
    exact jW2_some (eQ.f hf _ _)
end PARH
