/-! RULES: conditions as chains -/
section PARI
variable {T : Nat} {K P : Nat → Nat} {W : Nat → List Nat} {U : Nat → Nat} {Q : Nat} {nm : Nat → List Nat} {kd nb : Nat → Nat} {nl nt nu s : Nat} {cw : Nat → List Nat} {rho : Nat → Nat} {lam : Nat} {pa pb pw : Option Nat}
/-- the word does not stand here: the loops end -/
theorem cond_x38 {d e i : Nat} {D D' x y last : Int32} {o5 : Option Value} {I1 J1 : Nat → Nat → Int32} {L1 L1' : Nat → Nat → Int64} (hc : jv (d + 1) 9 0 [some (.ref 27), some (.int 8)] [] (shC, I1, L1, pX pa pb (some 38) pw) = some (some (.int 0), (shC, I1, L1, pX pa pb (some 38) pw))) (hr : J1 0 29 ≠ 0 ∨ jv (e + 1) 259 0 [some (.ref 0), some (.ref 2013)] [] (shR, J1, L1', pR) = some (some (.int 0), (shR, J1, L1', pR))) : jv (d + 2) 21 11 [some (.ref 27), some (.int D), some (.int x), some (.int last), some (.int (nI i)), o5] [] (shC, I1, L1, pX pa pb (some 38) pw) = some (some (.int x), (shC, I1, L1, pX pa pb (some 38) pw)) ∧ jv (e + 2) 267 6 [some (.ref 0), some (.int D'), some (.int y)] [] (shR, J1, L1', pR) = some (some (.int y), (shR, J1, L1', pR)) := by
  constructor
  · rw [B21_11_g38]
    by_cases q : nI i < I1 27 6
    · rw [if_pos q, jgo_some (d := d + 1) rfl hc]
      dsimp only [Option.toList_some, Option.toList_none, List.cons_append, List.nil_append]
      rw [B21_26_g38, if_pos rfl, B21_76_g38]
    · rw [if_neg q, B21_76_g38]
  · rw [B267_6]
    by_cases z : J1 0 29 = 0
    · rcases hr with q | q
      · exact absurd z q
      · rw [if_pos z, jgo_some (d := e + 1) rfl q]
        dsimp only [Option.toList_some, Option.toList_none, List.cons_append, List.nil_append]
        rw [B267_20, if_pos rfl, B267_51]
    · rw [if_neg z, B267_51]
theorem cond_e38 {d e h : Nat} {D D' : Int32} {I J : Nat → Nat → Int32} {L L' : Nat → Nat → Int64} {now nc nr : Nat} (ok : pOk 38 T K P W U Q nm kd nb nl nt nu s cw rho now nc nr I L J L') {now' nc' nr' n k i : Nat} {last : Int32} {I1 J1 : Nat → Nat → Int32} {L1 L1' : Nat → Nat → Int64} {o5 : Option Value} (st : eSt 38 T s now nc nr I L J L' now' nc' nr' I1 L1 J1 L1') (lt : now < now') (h29 : J1 0 29 = 0) (hp : (last = -1 ∧ pst 38 I1 J1 L1' nl nt lam h false (lam + (now' - now)) s rho nc nc' nr nr' n k) ∨ ∃ la, last = nI la ∧ chP 38 I1 J1 L1' nl nt lam h false (lam + (now' - now)) s rho 12 nc nc' nr nr' n k la) (h1 : ¬ (K now' = 97 ∧ W now' = kwA.getD 8 [])) : jW2 (jv (d + 2) 21 11 [some (.ref 27), some (.int D), some (.int (nI n)), some (.int last), some (.int (nI i)), o5] [] (shC, I1, L1, pX pa pb (some 38) pw)) (jv (e + 2) 267 6 [some (.ref 0), some (.int D'), some (.int (nI k))] [] (shR, J1, L1', pR)) (eQ 38 T K P nl nt lam s rho (h + 1) false now nc nr I L J L' (pX pa pb (some 38) pw)) := by
  have tk := eSt.tk (by decide) st ok.1
  have kw := eSt.kw st ok.2.1
  have np : pst 38 I1 J1 L1' nl nt lam (h + 1) false (lam + (now' - now)) s rho nc nc' nr nr' n k := by
    rcases hp with ⟨_, z⟩ | ⟨la, _, z⟩
    · exact z.frame (by omega) (Nat.le_refl _) (Nat.le_refl _) (Nat.le_refl _) (Nat.le_refl _) (Nat.le_refl _) (fun _ _ _ _ _ => rfl) (fun _ _ _ _ _ => rfl) (fun _ _ _ => rfl)
    · exact z.done (Or.inr ⟨rfl, by decide⟩)
  have xx := cond_x38 (d := d) (e := e) (i := i) (D := D) (D' := D') (x := nI n) (y := nI k) (last := last) (o5 := o5) (I1 := I1) (J1 := J1) (L1 := L1) (L1' := L1') (pa := pa) (pb := pb) (pw := pw)
    (by
      have := nowkey_c (d := d) (pa := pa) (pb := pb) (pu := some 38) (pw := pw) kw tk st.2.2.2.1 st.2.2.2.2.2.2.2.2.1 st.2.2.2.2.2.2.2.2.2.1 (k := 8) (by decide)
      rw [if_neg h1] at this
      exact this)
    (Or.inr (by
      have := isw_2013 (e := e) tk st.2.2.2.1 st.2.2.2.2.2.2.2.2.2.2.2.2.2.1
      rw [if_neg h1] at this
      exact this))
  rw [xx.1, xx.2]
  exact jW2_some (eQ.ok lt st h29 np)
theorem cond_l38 {d e h : Nat} {D D' : Int32} (H : ∀ (I : Nat → Nat → Int32) (L : Nat → Nat → Int64) (J : Nat → Nat → Int32) (L' : Nat → Nat → Int64) (now nc nr : Nat), pOk 38 T K P W U Q nm kd nb nl nt nu s cw rho now nc nr I L J L' → jW2 (jv (d + 1) 22 0 [some (.ref 27), some (.int D), none, none, none, none] [] (shC, I, L, pX pa pb (some 38) pw)) (jv (e + 1) 268 0 [some (.ref 0), some (.int D'), none] [] (shR, J, L', pR)) (eQ 38 T K P nl nt lam s rho h false now nc nr I L J L' (pX pa pb (some 38) pw))) {I J : Nat → Nat → Int32} {L L' : Nat → Nat → Int64} {now nc nr : Nat} (ok : pOk 38 T K P W U Q nm kd nb nl nt nu s cw rho now nc nr I L J L') : ∀ (r now' nc' nr' n k i : Nat) (last : Int32) (I1 J1 : Nat → Nat → Int32) (L1 L1' : Nat → Nat → Int64) (o5 : Option Value), T - now' < r → eSt 38 T s now nc nr I L J L' now' nc' nr' I1 L1 J1 L1' → now < now' → J1 0 29 = 0 → i ≤ now' → ((last = -1 ∧ pst 38 I1 J1 L1' nl nt lam h false (lam + (now' - now)) s rho nc nc' nr nr' n k) ∨ ∃ la, last = nI la ∧ chP 38 I1 J1 L1' nl nt lam h false (lam + (now' - now)) s rho 12 nc nc' nr nr' n k la) → jW2 (jv (d + 2) 21 11 [some (.ref 27), some (.int D), some (.int (nI n)), some (.int last), some (.int (nI i)), o5] [] (shC, I1, L1, pX pa pb (some 38) pw)) (jv (e + 2) 267 6 [some (.ref 0), some (.int D'), some (.int (nI k))] [] (shR, J1, L1', pR)) (eQ 38 T K P nl nt lam s rho (h + 1) false now nc nr I L J L' (pX pa pb (some 38) pw)) := by
  intro r
  induction r with
  | zero => intro now' nc' nr' n k i last I1 J1 L1 L1' o5 hr; exact absurd hr (Nat.not_lt_zero _)
  | succ r ih =>
    intro now' nc' nr' n k i last I1 J1 L1 L1' o5 hr st lt h29 hi hp
    by_cases h12 : K now' = 97 ∧ W now' = kwA.getD 8 []
    case neg => exact cond_e38 ok st lt h29 hp h12
    have hg : 38 = 38 ∨ 38 = 49 := by decide
    have tk := eSt.tk hg st ok.1
    have hT := ok.1.1
    have ltT : now' < T := tk.lt st.2.2.2.1 h12.1 (by decide)
    have kw := eSt.kw st ok.2.1
    obtain ⟨b1, b2, b3, b4, b5, b6, b7, b8, b9, b10, b11, b12, b13, b14, b15⟩ := id st
    have hnc := ok.2.2.2.2.2.1
    have hnr := ok.2.2.2.2.2.2.1
    have kq := tk.2.2.2.1 now' b4
    -- the first program's step
    have cs : jv (d + 2) 21 11 [some (.ref 27), some (.int D), some (.int (nI n)), some (.int last), some (.int (nI i)), o5] [] (shC, I1, L1, pX pa pb (some 38) pw) = jgo jTT jMM (d + 2) 22 [.ref 27, .int D] (shC, j_up I1 27 7 (nI (now' + 1)), L1, pX pa pb (some 38) pw) (fun v S => jv (d + 2) 21 52 [some (.ref 27), some (.int D), some (.int (nI n)), some (.int last), some (.int (nI i)), o5] (v.toList ++ [.int (nI n), .int 0, .int 12, .ref 38]) S) := by
      have := nowkey_c (d := d) (pa := pa) (pb := pb) (pu := some 38) (pw := pw) kw tk b4 b9 b10 (k := 8) (by decide)
      rw [if_pos h12, show nI 8 = (8 : Int32) from rfl] at this
      rw [B21_11_g38, tk.2.1, if_pos (nI_lt (by omega) (by omega)), jgo_some (d := d + 1) rfl this]
      dsimp only [Option.toList_some, Option.toList_none, List.cons_append, List.nil_append]
      rw [B21_26_g38, if_neg (by decide), b10, show nI now' + 1 = nI (now' + 1) from nI_add now' 1]
    have rs : jv (e + 2) 267 6 [some (.ref 0), some (.int D'), some (.int (nI k))] [] (shR, J1, L1', pR) = jgo jTT jMM (e + 2) 268 [.ref 0, .int D'] (shR, j_up J1 0 28 (nI (now' + 1)), L1', pR) (fun v S => jv (e + 2) 267 42 [some (.ref 0), some (.int D'), some (.int (nI k))] (v.toList ++ [.int (nI k), .int 20, .ref 0]) S) := by
      have := isw_2013 (e := e) tk b4 b14
      rw [if_pos h12] at this
      rw [B267_6, if_pos h29, jgo_some (d := e + 1) rfl this]
      dsimp only [Option.toList_some, Option.toList_none, List.cons_append, List.nil_append]
      rw [B267_20, if_neg (by decide), b14, show nI now' + 1 = nI (now' + 1) from nI_add now' 1]
    have hwh : opC 12 0 20 := by unfold opC; decide
    rw [cs, rs]
    have st1 := eSt.adv hg st ltT
    have ok1 : pOk 38 T K P W U Q nm kd nb nl nt nu s cw rho (now' + 1) nc' nr' (j_up I1 27 7 (nI (now' + 1))) L1 (j_up J1 0 28 (nI (now' + 1))) L1' := eSt.ok hg ok st1 (by rw [j_up_own, if_neg (by decide), h29])
    refine jW2_go rfl rfl (H _ _ _ _ _ _ _ ok1) ?_
    rintro v S w S' ⟨I2, L2, J2, L2', x, y, rfl, rfl, rfl, rfl, hh⟩
    dsimp only [Option.toList_some, Option.toList_none, List.cons_append, List.nil_append]
    rw [B21_52_g38, B267_42]
    rcases hh with ⟨now2, nc2, nr2, n2, k2, lt2, st2, rfl, rfl, hh⟩ | ⟨now1, nc1, now2, nr2, hf⟩
    · -- no fault in the first
      obtain ⟨_, _, a3, a4, a5, a6, a7, a8, a9, a10, a11, a12, a13, a14, a15⟩ := id st2
      have st3 := eSt.trans st1 st2
      have st4 := eSt.add hg st3 (by omega) (by omega) 12 0 (nI n) (nI n2) (-1) 20 (nI k) (nI k2) 0 0
      have c94 := add_c38 (d := d + 1) (L := L2) (pa := pa) (pb := pb) (pu := some 38) (pw := pw) a12 (show nc2 < 1201 by omega) 12 0 (nI n) (nI n2) (-1)
      have r66 := node_r (e := e + 1) (L' := L2') a15 (show nr2 < 1400 by omega) 20 (nI k) (nI k2) 0 0
      rw [jgo_some (d := d + 1) rfl c94, jgo_some (d := e + 1) rfl r66]
      dsimp only [Option.toList_some, Option.toList_none, List.cons_append, List.nil_append]
      rw [B21_56_g38, B267_47]
      have f27 : ∀ c i, c ≠ 27 → c ≠ 0 → j_up I1 27 7 (nI (now' + 1)) c i = I1 c i := fun c i h1 _ => by rw [j_up_cell _ h1]
      have g1 : ∀ c, c < 5 → ∀ i, nc ≤ i → i < nc' → I2 (38 + 1 + c) i = I1 (38 + 1 + c) i := fun c hc i _ i2 => by rw [st2.1.2.2.1 c hc i i2, f27 _ _ (by omega) (by omega)]
      have g2 : ∀ c, c < 4 → ∀ i, nr ≤ i → i < nr' → J2 (21 + c) i = J1 (21 + c) i := fun c hc i _ i2 => by rw [st2.2.1.2.1 c hc i i2, j_up_cell _ (by omega)]
      have g3 : ∀ i, nr ≤ i → i < nr' → L2' 25 i = L1' 25 i := fun i _ i2 => st2.2.1.2.2.2.2.2.1 i i2
      -- the join
      have jn : ∃ (n3 la3 : Nat) (I3 : Nat → Nat → Int32), jv (d + 1) 23 0 [some (.ref 27), some (.int (nI n)), some (.int last), some (.int (nI nc2))] [] (shC, adC 38 I2 nc2 12 0 (nI n) (nI n2) (-1), L2, pX pa pb (some 38) pw) = some (some (.int (nI n3)), (shC, I3, L2, pX pa pb (some 38) pw)) ∧ eSt 38 T s now nc nr I L J L' now2 (nc2 + 1) (nr2 + 1) I3 L2 (adR J2 nr2 20 (nI k) (nI k2) 0) (j_up L2' 25 nr2 0) ∧ (pst 38 I2 J2 L2' nl nt lam h false (lam + (now2 - (now' + 1))) s rho nc' nc2 nr' nr2 n2 k2 → chP 38 I3 (adR J2 nr2 20 (nI k) (nI k2) 0) (j_up L2' 25 nr2 0) nl nt lam h false (lam + (now2 - now)) s rho 12 nc (nc2 + 1) nr (nr2 + 1) n3 nr2 nc2) := by
        rcases hp with ⟨rfl, hp⟩ | ⟨la, rfl, hp⟩
        · exact ⟨nc2, nc2, _, join_n38 _ _, st4, fun z => chP.first (by omega) (by omega) hwh hp z (by omega) (by omega) b5 a5 b6 a6 g1 g2 g3 0⟩
        · obtain ⟨_, l1, l2, _⟩ := id hp
          exact ⟨n, nc2, _, join_c38 (show la < 1201 by omega) _ _, eSt.third hg st4 l1 _, fun z => chP.next (by omega) (by omega) hwh hp z (by omega) (by omega) b5 a5 b6 a6 g1 g2 g3 0 _⟩
      obtain ⟨n3, la3, I3, j1, j2, j3⟩ := jn
      rw [jgo_some (d := d + 1) rfl j1]
      dsimp only [Option.toList_some, Option.toList_none, List.cons_append, List.nil_append]
      rw [B21_66_g38, show nI i + 1 = nI (i + 1) from nI_add i 1]
      rcases hh with ⟨h29', hp2⟩ | ⟨h40, h29', h30'⟩
      · exact ih now2 (nc2 + 1) (nr2 + 1) n3 nr2 (i + 1) (nI nc2) I3 _ L2 _ _ (by omega) j2 (by omega) (by rw [(adR_at nr2 20 (nI k) (nI k2) 0).2.2.2.2.2.2.1 29 (by decide)]; exact h29') (by omega) (Or.inr ⟨nc2, rfl, j3 hp2⟩)
      · have tk3 := eSt.tk hg j2 ok.1
        have r29 : adR J2 nr2 20 (nI k) (nI k2) 0 0 29 = 2 := by rw [(adR_at nr2 20 (nI k) (nI k2) 0).2.2.2.2.2.2.1 29 (by decide)]; exact h29'
        have r30 : adR J2 nr2 20 (nI k) (nI k2) 0 0 30 = nI (P now2) := by rw [(adR_at nr2 20 (nI k) (nI k2) 0).2.2.2.2.2.2.1 30 (by decide)]; exact h30'
        have xx := cond_x38 (d := d) (e := e) (i := i + 1) (D := D) (D' := D') (x := nI n3) (y := nI nr2) (last := nI nc2) (o5 := some (.int (nI nc2))) (I1 := I3) (J1 := adR J2 nr2 20 (nI k) (nI k2) 0) (L1 := L2) (L1' := j_up L2' 25 nr2 0) (pa := pa) (pb := pb) (pw := pw)
          (by
            have := nowkey_c (d := d) (pa := pa) (pb := pb) (pu := some 38) (pw := pw) (eSt.kw j2 ok.2.1) tk3 j2.2.2.2.1 j2.2.2.2.2.2.2.2.2.1 j2.2.2.2.2.2.2.2.2.2.1 (k := 8) (by decide)
            rw [if_neg (fun z => by rw [h40] at z; exact absurd z.1 (by decide))] at this
            exact this)
          (Or.inl (by rw [r29]; decide))
        rw [xx.1, xx.2]
        exact jW2_some (eQ.pd (by omega) j2 h40 r29 r30)
    · -- a fault
      have hf1 := eF.pre st1 hf
      have fc := hf1.f
      have q1 := hf1.2.2.2.2.2.2.2.1
      have q2 := hf1.2.2.2.2.2.2.1
      have q3 := hf1.2.2.2.2.2.2.2.2.2.2.2.2.2
      have q4 := hf1.2.2.2.2.2.2.2.2.2.2.2.2.1
      have q5 := hf1.2.2.2.2.2.2.2.2.2.1
      have q6 := hf.2.2.2.2.2.2.2.2.2.2.2.2.1
      have r66 := node_r (e := e + 1) (L' := L2') q3 (show nr2 < 1400 by omega) 20 (nI k) y 0 0
      rw [jgo_some (d := e + 1) rfl r66]
      dsimp only [Option.toList_some, Option.toList_none, List.cons_append, List.nil_append]
      rw [B267_47]
      have hf2 := eF.addR hf1 (by omega) 20 (nI k) y 0 0
      have jn : ∃ (x3 l3 : Int32) (nc3 : Nat) (I3 : Nat → Nat → Int32), jgo jTT jMM (d + 2) 94 [.ref 38, .int 12, .int 0, .int (nI n), .int x, .int (-1)] (shC, I2, L2, pX pa pb (some 38) pw) (fun v S => jv (d + 2) 21 56 [some (.ref 27), some (.int D), some (.int (nI n)), some (.int last), some (.int (nI i)), o5] (v.toList ++ []) S) = jv (d + 2) 21 66 [some (.ref 27), some (.int D), some (.int (nI n)), some (.int last), some (.int (nI i)), some (.int l3)] [.int x3] (shC, I3, L2, pX pa pb (some 38) pw) ∧ eF 38 T s now nc nr I L J L' now1 nc3 now2 (nr2 + 1) I3 L2 (adR J2 nr2 20 (nI k) y 0) (j_up L2' 25 nr2 0) := by
        rcases Nat.lt_or_eq_of_le q2 with z | z
        · rw [jgo_some (d := d + 1) rfl (add_c38 q1 z _ _ _ _ _)]
          dsimp only [Option.toList_some, Option.toList_none, List.cons_append, List.nil_append]
          rw [B21_56_g38]
          have hf3 := eF.addC hg hf2 z 12 0 (nI n) x (-1)
          rcases hp with ⟨rfl, hp⟩ | ⟨la, rfl, hp⟩
          · exact ⟨_, _, _, _, by rw [jgo_some (d := d + 1) rfl (join_n38 _ _)]; rfl, hf3⟩
          · obtain ⟨_, l1, l2, _⟩ := id hp
            exact ⟨_, _, _, _, by rw [jgo_some (d := d + 1) rfl (join_c38 (show la < 1201 by omega) _ _)]; rfl, eF.third hg hf3 l1 _⟩
        · rw [jgo_some (d := d + 1) rfl (add_f38 (by rw [q1, z]) _ _ _ _ _)]
          dsimp only [Option.toList_some, Option.toList_none, List.cons_append, List.nil_append]
          rw [B21_56_g38]
          rcases hp with ⟨rfl, hp⟩ | ⟨la, rfl, hp⟩
          · exact ⟨_, _, _, _, by rw [jgo_some (d := d + 1) rfl (join_n38 _ _)]; rfl, hf2⟩
          · obtain ⟨_, l1, l2, _⟩ := id hp
            exact ⟨_, _, _, _, by rw [jgo_some (d := d + 1) rfl (join_c38 (show la < 1201 by omega) _ _)]; rfl, eF.third hg hf2 l1 _⟩
      obtain ⟨x3, l3, nc3, I3, j1, j2⟩ := jn
      rw [j1, B21_66_g38, show nI i + 1 = nI (i + 1) from nI_add i 1]
      have xx := cond_x38 (d := d) (e := e) (i := i + 1) (D := D) (D' := D') (x := x3) (y := nI nr2) (last := l3) (o5 := some (.int l3)) (I1 := I3) (J1 := adR J2 nr2 20 (nI k) y 0) (L1 := L2) (L1' := j_up L2' 25 nr2 0) (pa := pa) (pb := pb) (pw := pw)
          (nowkey_cf j2.f.1 _) (Or.inl j2.f.2)
      rw [xx.1, xx.2]
      exact jW2_some (eQ.f j2 _ _)
theorem cond_sim38 {d e h : Nat} {D D' : Int32} (H : ∀ (I : Nat → Nat → Int32) (L : Nat → Nat → Int64) (J : Nat → Nat → Int32) (L' : Nat → Nat → Int64) (now nc nr : Nat), pOk 38 T K P W U Q nm kd nb nl nt nu s cw rho now nc nr I L J L' → jW2 (jv (d + 1) 22 0 [some (.ref 27), some (.int D), none, none, none, none] [] (shC, I, L, pX pa pb (some 38) pw)) (jv (e + 1) 268 0 [some (.ref 0), some (.int D'), none] [] (shR, J, L', pR)) (eQ 38 T K P nl nt lam s rho h false now nc nr I L J L' (pX pa pb (some 38) pw))) {I J : Nat → Nat → Int32} {L L' : Nat → Nat → Int64} {now nc nr : Nat} (ok : pOk 38 T K P W U Q nm kd nb nl nt nu s cw rho now nc nr I L J L') : jW2 (jv (d + 2) 21 0 [some (.ref 27), some (.int D), none, none, none, none] [] (shC, I, L, pX pa pb (some 38) pw)) (jv (e + 2) 267 0 [some (.ref 0), some (.int D'), none] [] (shR, J, L', pR)) (eQ 38 T K P nl nt lam s rho (h + 1) false now nc nr I L J L' (pX pa pb (some 38) pw)) := by
  have hg : 38 = 38 ∨ 38 = 49 := by decide
  rw [B21_0_g38, B267_0]
  refine jW2_go rfl rfl (H _ _ _ _ _ _ _ ok) ?_
  rintro v S w S' ⟨I2, L2, J2, L2', x, y, rfl, rfl, rfl, rfl, hh⟩
  dsimp only [Option.toList_some, Option.toList_none, List.cons_append, List.nil_append]
  rw [B21_5_g38, B267_5]
  rcases hh with ⟨now2, nc2, nr2, n2, k2, lt2, st2, rfl, rfl, hh⟩ | ⟨now1, nc1, now2, nr2, hf⟩
  · rcases hh with ⟨h29', hp2⟩ | ⟨h40, h29', h30'⟩
    · exact cond_l38 H ok (T - now2 + 1) now2 nc2 nr2 n2 k2 0 (-1) I2 J2 L2 L2' _ (by omega) st2 lt2 h29' (by omega) (Or.inl ⟨rfl, hp2⟩)
    · have tk3 := eSt.tk hg st2 ok.1
      have xx := cond_x38 (d := d) (e := e) (i := 0) (D := D) (D' := D') (x := nI n2) (y := nI k2) (last := -1) (o5 := none) (I1 := I2) (J1 := J2) (L1 := L2) (L1' := L2') (pa := pa) (pb := pb) (pw := pw)
          (by
            have := nowkey_c (d := d) (pa := pa) (pb := pb) (pu := some 38) (pw := pw) (eSt.kw st2 ok.2.1) tk3 st2.2.2.2.1 st2.2.2.2.2.2.2.2.2.1 st2.2.2.2.2.2.2.2.2.2.1 (k := 8) (by decide)
            rw [if_neg (fun z => by rw [h40] at z; exact absurd z.1 (by decide))] at this
            exact this)
          (Or.inl (by rw [h29']; decide))
      rw [show (0 : Int32) = nI 0 from rfl, xx.1, xx.2]
      exact jW2_some (eQ.pd lt2 st2 h40 h29' h30')
  · have xx := cond_x38 (d := d) (e := e) (i := 0) (D := D) (D' := D') (x := x) (y := y) (last := -1) (o5 := none) (I1 := I2) (J1 := J2) (L1 := L2) (L1' := L2') (pa := pa) (pb := pb) (pw := pw)
          (nowkey_cf hf.f.1 _) (Or.inl hf.f.2)
    rw [show (0 : Int32) = nI 0 from rfl, xx.1, xx.2]
    exact jW2_some (eQ.f hf _ _)
/-- the word does not stand here: the loops end -/
theorem both_x38 {d e i : Nat} {D D' x y last : Int32} {o5 : Option Value} {I1 J1 : Nat → Nat → Int32} {L1 L1' : Nat → Nat → Int64} (hc : jv (d + 1) 9 0 [some (.ref 27), some (.int 7)] [] (shC, I1, L1, pX pa pb (some 38) pw) = some (some (.int 0), (shC, I1, L1, pX pa pb (some 38) pw))) (hr : J1 0 29 ≠ 0 ∨ jv (e + 1) 259 0 [some (.ref 0), some (.ref 2012)] [] (shR, J1, L1', pR) = some (some (.int 0), (shR, J1, L1', pR))) : jv (d + 2) 22 11 [some (.ref 27), some (.int D), some (.int x), some (.int last), some (.int (nI i)), o5] [] (shC, I1, L1, pX pa pb (some 38) pw) = some (some (.int x), (shC, I1, L1, pX pa pb (some 38) pw)) ∧ jv (e + 2) 268 6 [some (.ref 0), some (.int D'), some (.int y)] [] (shR, J1, L1', pR) = some (some (.int y), (shR, J1, L1', pR)) := by
  constructor
  · rw [B22_11_g38]
    by_cases q : nI i < I1 27 6
    · rw [if_pos q, jgo_some (d := d + 1) rfl hc]
      dsimp only [Option.toList_some, Option.toList_none, List.cons_append, List.nil_append]
      rw [B22_26_g38, if_pos rfl, B22_76_g38]
    · rw [if_neg q, B22_76_g38]
  · rw [B268_6]
    by_cases z : J1 0 29 = 0
    · rcases hr with q | q
      · exact absurd z q
      · rw [if_pos z, jgo_some (d := e + 1) rfl q]
        dsimp only [Option.toList_some, Option.toList_none, List.cons_append, List.nil_append]
        rw [B268_20, if_pos rfl, B268_51]
    · rw [if_neg z, B268_51]
theorem both_e38 {d e h : Nat} {D D' : Int32} {I J : Nat → Nat → Int32} {L L' : Nat → Nat → Int64} {now nc nr : Nat} (ok : pOk 38 T K P W U Q nm kd nb nl nt nu s cw rho now nc nr I L J L') {now' nc' nr' n k i : Nat} {last : Int32} {I1 J1 : Nat → Nat → Int32} {L1 L1' : Nat → Nat → Int64} {o5 : Option Value} (st : eSt 38 T s now nc nr I L J L' now' nc' nr' I1 L1 J1 L1') (lt : now < now') (h29 : J1 0 29 = 0) (hp : (last = -1 ∧ pst 38 I1 J1 L1' nl nt lam h false (lam + (now' - now)) s rho nc nc' nr nr' n k) ∨ ∃ la, last = nI la ∧ chP 38 I1 J1 L1' nl nt lam h false (lam + (now' - now)) s rho 13 nc nc' nr nr' n k la) (h1 : ¬ (K now' = 97 ∧ W now' = kwA.getD 7 [])) : jW2 (jv (d + 2) 22 11 [some (.ref 27), some (.int D), some (.int (nI n)), some (.int last), some (.int (nI i)), o5] [] (shC, I1, L1, pX pa pb (some 38) pw)) (jv (e + 2) 268 6 [some (.ref 0), some (.int D'), some (.int (nI k))] [] (shR, J1, L1', pR)) (eQ 38 T K P nl nt lam s rho (h + 1) false now nc nr I L J L' (pX pa pb (some 38) pw)) := by
  have tk := eSt.tk (by decide) st ok.1
  have kw := eSt.kw st ok.2.1
  have np : pst 38 I1 J1 L1' nl nt lam (h + 1) false (lam + (now' - now)) s rho nc nc' nr nr' n k := by
    rcases hp with ⟨_, z⟩ | ⟨la, _, z⟩
    · exact z.frame (by omega) (Nat.le_refl _) (Nat.le_refl _) (Nat.le_refl _) (Nat.le_refl _) (Nat.le_refl _) (fun _ _ _ _ _ => rfl) (fun _ _ _ _ _ => rfl) (fun _ _ _ => rfl)
    · exact z.done (Or.inr ⟨rfl, by decide⟩)
  have xx := both_x38 (d := d) (e := e) (i := i) (D := D) (D' := D') (x := nI n) (y := nI k) (last := last) (o5 := o5) (I1 := I1) (J1 := J1) (L1 := L1) (L1' := L1') (pa := pa) (pb := pb) (pw := pw)
    (by
      have := nowkey_c (d := d) (pa := pa) (pb := pb) (pu := some 38) (pw := pw) kw tk st.2.2.2.1 st.2.2.2.2.2.2.2.2.1 st.2.2.2.2.2.2.2.2.2.1 (k := 7) (by decide)
      rw [if_neg h1] at this
      exact this)
    (Or.inr (by
      have := isw_2012 (e := e) tk st.2.2.2.1 st.2.2.2.2.2.2.2.2.2.2.2.2.2.1
      rw [if_neg h1] at this
      exact this))
  rw [xx.1, xx.2]
  exact jW2_some (eQ.ok lt st h29 np)
theorem both_l38 {d e h : Nat} {D D' : Int32} (H : ∀ (I : Nat → Nat → Int32) (L : Nat → Nat → Int64) (J : Nat → Nat → Int32) (L' : Nat → Nat → Int64) (now nc nr : Nat), pOk 38 T K P W U Q nm kd nb nl nt nu s cw rho now nc nr I L J L' → jW2 (jv (d + 1) 24 0 [some (.ref 27), some (.int D), none, none] [] (shC, I, L, pX pa pb (some 38) pw)) (jv (e + 1) 269 0 [some (.ref 0), some (.int D'), none, none] [] (shR, J, L', pR)) (eQ 38 T K P nl nt lam s rho h false now nc nr I L J L' (pX pa pb (some 38) pw))) {I J : Nat → Nat → Int32} {L L' : Nat → Nat → Int64} {now nc nr : Nat} (ok : pOk 38 T K P W U Q nm kd nb nl nt nu s cw rho now nc nr I L J L') : ∀ (r now' nc' nr' n k i : Nat) (last : Int32) (I1 J1 : Nat → Nat → Int32) (L1 L1' : Nat → Nat → Int64) (o5 : Option Value), T - now' < r → eSt 38 T s now nc nr I L J L' now' nc' nr' I1 L1 J1 L1' → now < now' → J1 0 29 = 0 → i ≤ now' → ((last = -1 ∧ pst 38 I1 J1 L1' nl nt lam h false (lam + (now' - now)) s rho nc nc' nr nr' n k) ∨ ∃ la, last = nI la ∧ chP 38 I1 J1 L1' nl nt lam h false (lam + (now' - now)) s rho 13 nc nc' nr nr' n k la) → jW2 (jv (d + 2) 22 11 [some (.ref 27), some (.int D), some (.int (nI n)), some (.int last), some (.int (nI i)), o5] [] (shC, I1, L1, pX pa pb (some 38) pw)) (jv (e + 2) 268 6 [some (.ref 0), some (.int D'), some (.int (nI k))] [] (shR, J1, L1', pR)) (eQ 38 T K P nl nt lam s rho (h + 1) false now nc nr I L J L' (pX pa pb (some 38) pw)) := by
  intro r
  induction r with
  | zero => intro now' nc' nr' n k i last I1 J1 L1 L1' o5 hr; exact absurd hr (Nat.not_lt_zero _)
  | succ r ih =>
    intro now' nc' nr' n k i last I1 J1 L1 L1' o5 hr st lt h29 hi hp
    by_cases h12 : K now' = 97 ∧ W now' = kwA.getD 7 []
    case neg => exact both_e38 ok st lt h29 hp h12
    have hg : 38 = 38 ∨ 38 = 49 := by decide
    have tk := eSt.tk hg st ok.1
    have hT := ok.1.1
    have ltT : now' < T := tk.lt st.2.2.2.1 h12.1 (by decide)
    have kw := eSt.kw st ok.2.1
    obtain ⟨b1, b2, b3, b4, b5, b6, b7, b8, b9, b10, b11, b12, b13, b14, b15⟩ := id st
    have hnc := ok.2.2.2.2.2.1
    have hnr := ok.2.2.2.2.2.2.1
    have kq := tk.2.2.2.1 now' b4
    -- the first program's step
    have cs : jv (d + 2) 22 11 [some (.ref 27), some (.int D), some (.int (nI n)), some (.int last), some (.int (nI i)), o5] [] (shC, I1, L1, pX pa pb (some 38) pw) = jgo jTT jMM (d + 2) 24 [.ref 27, .int D] (shC, j_up I1 27 7 (nI (now' + 1)), L1, pX pa pb (some 38) pw) (fun v S => jv (d + 2) 22 52 [some (.ref 27), some (.int D), some (.int (nI n)), some (.int last), some (.int (nI i)), o5] (v.toList ++ [.int (nI n), .int 0, .int 13, .ref 38]) S) := by
      have := nowkey_c (d := d) (pa := pa) (pb := pb) (pu := some 38) (pw := pw) kw tk b4 b9 b10 (k := 7) (by decide)
      rw [if_pos h12, show nI 7 = (7 : Int32) from rfl] at this
      rw [B22_11_g38, tk.2.1, if_pos (nI_lt (by omega) (by omega)), jgo_some (d := d + 1) rfl this]
      dsimp only [Option.toList_some, Option.toList_none, List.cons_append, List.nil_append]
      rw [B22_26_g38, if_neg (by decide), b10, show nI now' + 1 = nI (now' + 1) from nI_add now' 1]
    have rs : jv (e + 2) 268 6 [some (.ref 0), some (.int D'), some (.int (nI k))] [] (shR, J1, L1', pR) = jgo jTT jMM (e + 2) 269 [.ref 0, .int D'] (shR, j_up J1 0 28 (nI (now' + 1)), L1', pR) (fun v S => jv (e + 2) 268 42 [some (.ref 0), some (.int D'), some (.int (nI k))] (v.toList ++ [.int (nI k), .int 21, .ref 0]) S) := by
      have := isw_2012 (e := e) tk b4 b14
      rw [if_pos h12] at this
      rw [B268_6, if_pos h29, jgo_some (d := e + 1) rfl this]
      dsimp only [Option.toList_some, Option.toList_none, List.cons_append, List.nil_append]
      rw [B268_20, if_neg (by decide), b14, show nI now' + 1 = nI (now' + 1) from nI_add now' 1]
    have hwh : opC 13 0 21 := by unfold opC; decide
    rw [cs, rs]
    have st1 := eSt.adv hg st ltT
    have ok1 : pOk 38 T K P W U Q nm kd nb nl nt nu s cw rho (now' + 1) nc' nr' (j_up I1 27 7 (nI (now' + 1))) L1 (j_up J1 0 28 (nI (now' + 1))) L1' := eSt.ok hg ok st1 (by rw [j_up_own, if_neg (by decide), h29])
    refine jW2_go rfl rfl (H _ _ _ _ _ _ _ ok1) ?_
    rintro v S w S' ⟨I2, L2, J2, L2', x, y, rfl, rfl, rfl, rfl, hh⟩
    dsimp only [Option.toList_some, Option.toList_none, List.cons_append, List.nil_append]
    rw [B22_52_g38, B268_42]
    rcases hh with ⟨now2, nc2, nr2, n2, k2, lt2, st2, rfl, rfl, hh⟩ | ⟨now1, nc1, now2, nr2, hf⟩
    · -- no fault in the first
      obtain ⟨_, _, a3, a4, a5, a6, a7, a8, a9, a10, a11, a12, a13, a14, a15⟩ := id st2
      have st3 := eSt.trans st1 st2
      have st4 := eSt.add hg st3 (by omega) (by omega) 13 0 (nI n) (nI n2) (-1) 21 (nI k) (nI k2) 0 0
      have c94 := add_c38 (d := d + 1) (L := L2) (pa := pa) (pb := pb) (pu := some 38) (pw := pw) a12 (show nc2 < 1201 by omega) 13 0 (nI n) (nI n2) (-1)
      have r66 := node_r (e := e + 1) (L' := L2') a15 (show nr2 < 1400 by omega) 21 (nI k) (nI k2) 0 0
      rw [jgo_some (d := d + 1) rfl c94, jgo_some (d := e + 1) rfl r66]
      dsimp only [Option.toList_some, Option.toList_none, List.cons_append, List.nil_append]
      rw [B22_56_g38, B268_47]
      have f27 : ∀ c i, c ≠ 27 → c ≠ 0 → j_up I1 27 7 (nI (now' + 1)) c i = I1 c i := fun c i h1 _ => by rw [j_up_cell _ h1]
      have g1 : ∀ c, c < 5 → ∀ i, nc ≤ i → i < nc' → I2 (38 + 1 + c) i = I1 (38 + 1 + c) i := fun c hc i _ i2 => by rw [st2.1.2.2.1 c hc i i2, f27 _ _ (by omega) (by omega)]
      have g2 : ∀ c, c < 4 → ∀ i, nr ≤ i → i < nr' → J2 (21 + c) i = J1 (21 + c) i := fun c hc i _ i2 => by rw [st2.2.1.2.1 c hc i i2, j_up_cell _ (by omega)]
      have g3 : ∀ i, nr ≤ i → i < nr' → L2' 25 i = L1' 25 i := fun i _ i2 => st2.2.1.2.2.2.2.2.1 i i2
      -- the join
      have jn : ∃ (n3 la3 : Nat) (I3 : Nat → Nat → Int32), jv (d + 1) 23 0 [some (.ref 27), some (.int (nI n)), some (.int last), some (.int (nI nc2))] [] (shC, adC 38 I2 nc2 13 0 (nI n) (nI n2) (-1), L2, pX pa pb (some 38) pw) = some (some (.int (nI n3)), (shC, I3, L2, pX pa pb (some 38) pw)) ∧ eSt 38 T s now nc nr I L J L' now2 (nc2 + 1) (nr2 + 1) I3 L2 (adR J2 nr2 21 (nI k) (nI k2) 0) (j_up L2' 25 nr2 0) ∧ (pst 38 I2 J2 L2' nl nt lam h false (lam + (now2 - (now' + 1))) s rho nc' nc2 nr' nr2 n2 k2 → chP 38 I3 (adR J2 nr2 21 (nI k) (nI k2) 0) (j_up L2' 25 nr2 0) nl nt lam h false (lam + (now2 - now)) s rho 13 nc (nc2 + 1) nr (nr2 + 1) n3 nr2 nc2) := by
        rcases hp with ⟨rfl, hp⟩ | ⟨la, rfl, hp⟩
        · exact ⟨nc2, nc2, _, join_n38 _ _, st4, fun z => chP.first (by omega) (by omega) hwh hp z (by omega) (by omega) b5 a5 b6 a6 g1 g2 g3 0⟩
        · obtain ⟨_, l1, l2, _⟩ := id hp
          exact ⟨n, nc2, _, join_c38 (show la < 1201 by omega) _ _, eSt.third hg st4 l1 _, fun z => chP.next (by omega) (by omega) hwh hp z (by omega) (by omega) b5 a5 b6 a6 g1 g2 g3 0 _⟩
      obtain ⟨n3, la3, I3, j1, j2, j3⟩ := jn
      rw [jgo_some (d := d + 1) rfl j1]
      dsimp only [Option.toList_some, Option.toList_none, List.cons_append, List.nil_append]
      rw [B22_66_g38, show nI i + 1 = nI (i + 1) from nI_add i 1]
      rcases hh with ⟨h29', hp2⟩ | ⟨h40, h29', h30'⟩
      · exact ih now2 (nc2 + 1) (nr2 + 1) n3 nr2 (i + 1) (nI nc2) I3 _ L2 _ _ (by omega) j2 (by omega) (by rw [(adR_at nr2 21 (nI k) (nI k2) 0).2.2.2.2.2.2.1 29 (by decide)]; exact h29') (by omega) (Or.inr ⟨nc2, rfl, j3 hp2⟩)
      · have tk3 := eSt.tk hg j2 ok.1
        have r29 : adR J2 nr2 21 (nI k) (nI k2) 0 0 29 = 2 := by rw [(adR_at nr2 21 (nI k) (nI k2) 0).2.2.2.2.2.2.1 29 (by decide)]; exact h29'
        have r30 : adR J2 nr2 21 (nI k) (nI k2) 0 0 30 = nI (P now2) := by rw [(adR_at nr2 21 (nI k) (nI k2) 0).2.2.2.2.2.2.1 30 (by decide)]; exact h30'
        have xx := both_x38 (d := d) (e := e) (i := i + 1) (D := D) (D' := D') (x := nI n3) (y := nI nr2) (last := nI nc2) (o5 := some (.int (nI nc2))) (I1 := I3) (J1 := adR J2 nr2 21 (nI k) (nI k2) 0) (L1 := L2) (L1' := j_up L2' 25 nr2 0) (pa := pa) (pb := pb) (pw := pw)
          (by
            have := nowkey_c (d := d) (pa := pa) (pb := pb) (pu := some 38) (pw := pw) (eSt.kw j2 ok.2.1) tk3 j2.2.2.2.1 j2.2.2.2.2.2.2.2.2.1 j2.2.2.2.2.2.2.2.2.2.1 (k := 7) (by decide)
            rw [if_neg (fun z => by rw [h40] at z; exact absurd z.1 (by decide))] at this
            exact this)
          (Or.inl (by rw [r29]; decide))
        rw [xx.1, xx.2]
        exact jW2_some (eQ.pd (by omega) j2 h40 r29 r30)
    · -- a fault
      have hf1 := eF.pre st1 hf
      have fc := hf1.f
      have q1 := hf1.2.2.2.2.2.2.2.1
      have q2 := hf1.2.2.2.2.2.2.1
      have q3 := hf1.2.2.2.2.2.2.2.2.2.2.2.2.2
      have q4 := hf1.2.2.2.2.2.2.2.2.2.2.2.2.1
      have q5 := hf1.2.2.2.2.2.2.2.2.2.1
      have q6 := hf.2.2.2.2.2.2.2.2.2.2.2.2.1
      have r66 := node_r (e := e + 1) (L' := L2') q3 (show nr2 < 1400 by omega) 21 (nI k) y 0 0
      rw [jgo_some (d := e + 1) rfl r66]
      dsimp only [Option.toList_some, Option.toList_none, List.cons_append, List.nil_append]
      rw [B268_47]
      have hf2 := eF.addR hf1 (by omega) 21 (nI k) y 0 0
      have jn : ∃ (x3 l3 : Int32) (nc3 : Nat) (I3 : Nat → Nat → Int32), jgo jTT jMM (d + 2) 94 [.ref 38, .int 13, .int 0, .int (nI n), .int x, .int (-1)] (shC, I2, L2, pX pa pb (some 38) pw) (fun v S => jv (d + 2) 22 56 [some (.ref 27), some (.int D), some (.int (nI n)), some (.int last), some (.int (nI i)), o5] (v.toList ++ []) S) = jv (d + 2) 22 66 [some (.ref 27), some (.int D), some (.int (nI n)), some (.int last), some (.int (nI i)), some (.int l3)] [.int x3] (shC, I3, L2, pX pa pb (some 38) pw) ∧ eF 38 T s now nc nr I L J L' now1 nc3 now2 (nr2 + 1) I3 L2 (adR J2 nr2 21 (nI k) y 0) (j_up L2' 25 nr2 0) := by
        rcases Nat.lt_or_eq_of_le q2 with z | z
        · rw [jgo_some (d := d + 1) rfl (add_c38 q1 z _ _ _ _ _)]
          dsimp only [Option.toList_some, Option.toList_none, List.cons_append, List.nil_append]
          rw [B22_56_g38]
          have hf3 := eF.addC hg hf2 z 13 0 (nI n) x (-1)
          rcases hp with ⟨rfl, hp⟩ | ⟨la, rfl, hp⟩
          · exact ⟨_, _, _, _, by rw [jgo_some (d := d + 1) rfl (join_n38 _ _)]; rfl, hf3⟩
          · obtain ⟨_, l1, l2, _⟩ := id hp
            exact ⟨_, _, _, _, by rw [jgo_some (d := d + 1) rfl (join_c38 (show la < 1201 by omega) _ _)]; rfl, eF.third hg hf3 l1 _⟩
        · rw [jgo_some (d := d + 1) rfl (add_f38 (by rw [q1, z]) _ _ _ _ _)]
          dsimp only [Option.toList_some, Option.toList_none, List.cons_append, List.nil_append]
          rw [B22_56_g38]
          rcases hp with ⟨rfl, hp⟩ | ⟨la, rfl, hp⟩
          · exact ⟨_, _, _, _, by rw [jgo_some (d := d + 1) rfl (join_n38 _ _)]; rfl, hf2⟩
          · obtain ⟨_, l1, l2, _⟩ := id hp
            exact ⟨_, _, _, _, by rw [jgo_some (d := d + 1) rfl (join_c38 (show la < 1201 by omega) _ _)]; rfl, eF.third hg hf2 l1 _⟩
      obtain ⟨x3, l3, nc3, I3, j1, j2⟩ := jn
      rw [j1, B22_66_g38, show nI i + 1 = nI (i + 1) from nI_add i 1]
      have xx := both_x38 (d := d) (e := e) (i := i + 1) (D := D) (D' := D') (x := x3) (y := nI nr2) (last := l3) (o5 := some (.int l3)) (I1 := I3) (J1 := adR J2 nr2 21 (nI k) y 0) (L1 := L2) (L1' := j_up L2' 25 nr2 0) (pa := pa) (pb := pb) (pw := pw)
          (nowkey_cf j2.f.1 _) (Or.inl j2.f.2)
      rw [xx.1, xx.2]
      exact jW2_some (eQ.f j2 _ _)
theorem both_sim38 {d e h : Nat} {D D' : Int32} (H : ∀ (I : Nat → Nat → Int32) (L : Nat → Nat → Int64) (J : Nat → Nat → Int32) (L' : Nat → Nat → Int64) (now nc nr : Nat), pOk 38 T K P W U Q nm kd nb nl nt nu s cw rho now nc nr I L J L' → jW2 (jv (d + 1) 24 0 [some (.ref 27), some (.int D), none, none] [] (shC, I, L, pX pa pb (some 38) pw)) (jv (e + 1) 269 0 [some (.ref 0), some (.int D'), none, none] [] (shR, J, L', pR)) (eQ 38 T K P nl nt lam s rho h false now nc nr I L J L' (pX pa pb (some 38) pw))) {I J : Nat → Nat → Int32} {L L' : Nat → Nat → Int64} {now nc nr : Nat} (ok : pOk 38 T K P W U Q nm kd nb nl nt nu s cw rho now nc nr I L J L') : jW2 (jv (d + 2) 22 0 [some (.ref 27), some (.int D), none, none, none, none] [] (shC, I, L, pX pa pb (some 38) pw)) (jv (e + 2) 268 0 [some (.ref 0), some (.int D'), none] [] (shR, J, L', pR)) (eQ 38 T K P nl nt lam s rho (h + 1) false now nc nr I L J L' (pX pa pb (some 38) pw)) := by
  have hg : 38 = 38 ∨ 38 = 49 := by decide
  rw [B22_0_g38, B268_0]
  refine jW2_go rfl rfl (H _ _ _ _ _ _ _ ok) ?_
  rintro v S w S' ⟨I2, L2, J2, L2', x, y, rfl, rfl, rfl, rfl, hh⟩
  dsimp only [Option.toList_some, Option.toList_none, List.cons_append, List.nil_append]
  rw [B22_5_g38, B268_5]
  rcases hh with ⟨now2, nc2, nr2, n2, k2, lt2, st2, rfl, rfl, hh⟩ | ⟨now1, nc1, now2, nr2, hf⟩
  · rcases hh with ⟨h29', hp2⟩ | ⟨h40, h29', h30'⟩
    · exact both_l38 H ok (T - now2 + 1) now2 nc2 nr2 n2 k2 0 (-1) I2 J2 L2 L2' _ (by omega) st2 lt2 h29' (by omega) (Or.inl ⟨rfl, hp2⟩)
    · have tk3 := eSt.tk hg st2 ok.1
      have xx := both_x38 (d := d) (e := e) (i := 0) (D := D) (D' := D') (x := nI n2) (y := nI k2) (last := -1) (o5 := none) (I1 := I2) (J1 := J2) (L1 := L2) (L1' := L2') (pa := pa) (pb := pb) (pw := pw)
          (by
            have := nowkey_c (d := d) (pa := pa) (pb := pb) (pu := some 38) (pw := pw) (eSt.kw st2 ok.2.1) tk3 st2.2.2.2.1 st2.2.2.2.2.2.2.2.2.1 st2.2.2.2.2.2.2.2.2.2.1 (k := 7) (by decide)
            rw [if_neg (fun z => by rw [h40] at z; exact absurd z.1 (by decide))] at this
            exact this)
          (Or.inl (by rw [h29']; decide))
      rw [show (0 : Int32) = nI 0 from rfl, xx.1, xx.2]
      exact jW2_some (eQ.pd lt2 st2 h40 h29' h30')
  · have xx := both_x38 (d := d) (e := e) (i := 0) (D := D) (D' := D') (x := x) (y := y) (last := -1) (o5 := none) (I1 := I2) (J1 := J2) (L1 := L2) (L1' := L2') (pa := pa) (pb := pb) (pw := pw)
          (nowkey_cf hf.f.1 _) (Or.inl hf.f.2)
    rw [show (0 : Int32) = nI 0 from rfl, xx.1, xx.2]
    exact jW2_some (eQ.f hf _ _)
/-- the word does not stand here: the loops end -/
theorem cond_x49 {d e i : Nat} {D D' x y last : Int32} {o5 : Option Value} {I1 J1 : Nat → Nat → Int32} {L1 L1' : Nat → Nat → Int64} (hc : jv (d + 1) 9 0 [some (.ref 27), some (.int 8)] [] (shC, I1, L1, pX pa pb (some 49) pw) = some (some (.int 0), (shC, I1, L1, pX pa pb (some 49) pw))) (hr : J1 0 29 ≠ 0 ∨ jv (e + 1) 259 0 [some (.ref 0), some (.ref 2013)] [] (shR, J1, L1', pR) = some (some (.int 0), (shR, J1, L1', pR))) : jv (d + 2) 21 11 [some (.ref 27), some (.int D), some (.int x), some (.int last), some (.int (nI i)), o5] [] (shC, I1, L1, pX pa pb (some 49) pw) = some (some (.int x), (shC, I1, L1, pX pa pb (some 49) pw)) ∧ jv (e + 2) 267 6 [some (.ref 0), some (.int D'), some (.int y)] [] (shR, J1, L1', pR) = some (some (.int y), (shR, J1, L1', pR)) := by
  constructor
  · rw [B21_11_g49]
    by_cases q : nI i < I1 27 6
    · rw [if_pos q, jgo_some (d := d + 1) rfl hc]
      dsimp only [Option.toList_some, Option.toList_none, List.cons_append, List.nil_append]
      rw [B21_26_g49, if_pos rfl, B21_76_g49]
    · rw [if_neg q, B21_76_g49]
  · rw [B267_6]
    by_cases z : J1 0 29 = 0
    · rcases hr with q | q
      · exact absurd z q
      · rw [if_pos z, jgo_some (d := e + 1) rfl q]
        dsimp only [Option.toList_some, Option.toList_none, List.cons_append, List.nil_append]
        rw [B267_20, if_pos rfl, B267_51]
    · rw [if_neg z, B267_51]
theorem cond_e49 {d e h : Nat} {D D' : Int32} {I J : Nat → Nat → Int32} {L L' : Nat → Nat → Int64} {now nc nr : Nat} (ok : pOk 49 T K P W U Q nm kd nb nl nt nu s cw rho now nc nr I L J L') {now' nc' nr' n k i : Nat} {last : Int32} {I1 J1 : Nat → Nat → Int32} {L1 L1' : Nat → Nat → Int64} {o5 : Option Value} (st : eSt 49 T s now nc nr I L J L' now' nc' nr' I1 L1 J1 L1') (lt : now < now') (h29 : J1 0 29 = 0) (hp : (last = -1 ∧ pst 49 I1 J1 L1' nl nt lam h false (lam + (now' - now)) s rho nc nc' nr nr' n k) ∨ ∃ la, last = nI la ∧ chP 49 I1 J1 L1' nl nt lam h false (lam + (now' - now)) s rho 12 nc nc' nr nr' n k la) (h1 : ¬ (K now' = 97 ∧ W now' = kwA.getD 8 [])) : jW2 (jv (d + 2) 21 11 [some (.ref 27), some (.int D), some (.int (nI n)), some (.int last), some (.int (nI i)), o5] [] (shC, I1, L1, pX pa pb (some 49) pw)) (jv (e + 2) 267 6 [some (.ref 0), some (.int D'), some (.int (nI k))] [] (shR, J1, L1', pR)) (eQ 49 T K P nl nt lam s rho (h + 1) false now nc nr I L J L' (pX pa pb (some 49) pw)) := by
  have tk := eSt.tk (by decide) st ok.1
  have kw := eSt.kw st ok.2.1
  have np : pst 49 I1 J1 L1' nl nt lam (h + 1) false (lam + (now' - now)) s rho nc nc' nr nr' n k := by
    rcases hp with ⟨_, z⟩ | ⟨la, _, z⟩
    · exact z.frame (by omega) (Nat.le_refl _) (Nat.le_refl _) (Nat.le_refl _) (Nat.le_refl _) (Nat.le_refl _) (fun _ _ _ _ _ => rfl) (fun _ _ _ _ _ => rfl) (fun _ _ _ => rfl)
    · exact z.done (Or.inr ⟨rfl, by decide⟩)
  have xx := cond_x49 (d := d) (e := e) (i := i) (D := D) (D' := D') (x := nI n) (y := nI k) (last := last) (o5 := o5) (I1 := I1) (J1 := J1) (L1 := L1) (L1' := L1') (pa := pa) (pb := pb) (pw := pw)
    (by
      have := nowkey_c (d := d) (pa := pa) (pb := pb) (pu := some 49) (pw := pw) kw tk st.2.2.2.1 st.2.2.2.2.2.2.2.2.1 st.2.2.2.2.2.2.2.2.2.1 (k := 8) (by decide)
      rw [if_neg h1] at this
      exact this)
    (Or.inr (by
      have := isw_2013 (e := e) tk st.2.2.2.1 st.2.2.2.2.2.2.2.2.2.2.2.2.2.1
      rw [if_neg h1] at this
      exact this))
  rw [xx.1, xx.2]
  exact jW2_some (eQ.ok lt st h29 np)
theorem cond_l49 {d e h : Nat} {D D' : Int32} (H : ∀ (I : Nat → Nat → Int32) (L : Nat → Nat → Int64) (J : Nat → Nat → Int32) (L' : Nat → Nat → Int64) (now nc nr : Nat), pOk 49 T K P W U Q nm kd nb nl nt nu s cw rho now nc nr I L J L' → jW2 (jv (d + 1) 22 0 [some (.ref 27), some (.int D), none, none, none, none] [] (shC, I, L, pX pa pb (some 49) pw)) (jv (e + 1) 268 0 [some (.ref 0), some (.int D'), none] [] (shR, J, L', pR)) (eQ 49 T K P nl nt lam s rho h false now nc nr I L J L' (pX pa pb (some 49) pw))) {I J : Nat → Nat → Int32} {L L' : Nat → Nat → Int64} {now nc nr : Nat} (ok : pOk 49 T K P W U Q nm kd nb nl nt nu s cw rho now nc nr I L J L') : ∀ (r now' nc' nr' n k i : Nat) (last : Int32) (I1 J1 : Nat → Nat → Int32) (L1 L1' : Nat → Nat → Int64) (o5 : Option Value), T - now' < r → eSt 49 T s now nc nr I L J L' now' nc' nr' I1 L1 J1 L1' → now < now' → J1 0 29 = 0 → i ≤ now' → ((last = -1 ∧ pst 49 I1 J1 L1' nl nt lam h false (lam + (now' - now)) s rho nc nc' nr nr' n k) ∨ ∃ la, last = nI la ∧ chP 49 I1 J1 L1' nl nt lam h false (lam + (now' - now)) s rho 12 nc nc' nr nr' n k la) → jW2 (jv (d + 2) 21 11 [some (.ref 27), some (.int D), some (.int (nI n)), some (.int last), some (.int (nI i)), o5] [] (shC, I1, L1, pX pa pb (some 49) pw)) (jv (e + 2) 267 6 [some (.ref 0), some (.int D'), some (.int (nI k))] [] (shR, J1, L1', pR)) (eQ 49 T K P nl nt lam s rho (h + 1) false now nc nr I L J L' (pX pa pb (some 49) pw)) := by
  intro r
  induction r with
  | zero => intro now' nc' nr' n k i last I1 J1 L1 L1' o5 hr; exact absurd hr (Nat.not_lt_zero _)
  | succ r ih =>
    intro now' nc' nr' n k i last I1 J1 L1 L1' o5 hr st lt h29 hi hp
    by_cases h12 : K now' = 97 ∧ W now' = kwA.getD 8 []
    case neg => exact cond_e49 ok st lt h29 hp h12
    have hg : 49 = 38 ∨ 49 = 49 := by decide
    have tk := eSt.tk hg st ok.1
    have hT := ok.1.1
    have ltT : now' < T := tk.lt st.2.2.2.1 h12.1 (by decide)
    have kw := eSt.kw st ok.2.1
    obtain ⟨b1, b2, b3, b4, b5, b6, b7, b8, b9, b10, b11, b12, b13, b14, b15⟩ := id st
    have hnc := ok.2.2.2.2.2.1
    have hnr := ok.2.2.2.2.2.2.1
    have kq := tk.2.2.2.1 now' b4
    -- the first program's step
    have cs : jv (d + 2) 21 11 [some (.ref 27), some (.int D), some (.int (nI n)), some (.int last), some (.int (nI i)), o5] [] (shC, I1, L1, pX pa pb (some 49) pw) = jgo jTT jMM (d + 2) 22 [.ref 27, .int D] (shC, j_up I1 27 7 (nI (now' + 1)), L1, pX pa pb (some 49) pw) (fun v S => jv (d + 2) 21 52 [some (.ref 27), some (.int D), some (.int (nI n)), some (.int last), some (.int (nI i)), o5] (v.toList ++ [.int (nI n), .int 0, .int 12, .ref 49]) S) := by
      have := nowkey_c (d := d) (pa := pa) (pb := pb) (pu := some 49) (pw := pw) kw tk b4 b9 b10 (k := 8) (by decide)
      rw [if_pos h12, show nI 8 = (8 : Int32) from rfl] at this
      rw [B21_11_g49, tk.2.1, if_pos (nI_lt (by omega) (by omega)), jgo_some (d := d + 1) rfl this]
      dsimp only [Option.toList_some, Option.toList_none, List.cons_append, List.nil_append]
      rw [B21_26_g49, if_neg (by decide), b10, show nI now' + 1 = nI (now' + 1) from nI_add now' 1]
    have rs : jv (e + 2) 267 6 [some (.ref 0), some (.int D'), some (.int (nI k))] [] (shR, J1, L1', pR) = jgo jTT jMM (e + 2) 268 [.ref 0, .int D'] (shR, j_up J1 0 28 (nI (now' + 1)), L1', pR) (fun v S => jv (e + 2) 267 42 [some (.ref 0), some (.int D'), some (.int (nI k))] (v.toList ++ [.int (nI k), .int 20, .ref 0]) S) := by
      have := isw_2013 (e := e) tk b4 b14
      rw [if_pos h12] at this
      rw [B267_6, if_pos h29, jgo_some (d := e + 1) rfl this]
      dsimp only [Option.toList_some, Option.toList_none, List.cons_append, List.nil_append]
      rw [B267_20, if_neg (by decide), b14, show nI now' + 1 = nI (now' + 1) from nI_add now' 1]
    have hwh : opC 12 0 20 := by unfold opC; decide
    rw [cs, rs]
    have st1 := eSt.adv hg st ltT
    have ok1 : pOk 49 T K P W U Q nm kd nb nl nt nu s cw rho (now' + 1) nc' nr' (j_up I1 27 7 (nI (now' + 1))) L1 (j_up J1 0 28 (nI (now' + 1))) L1' := eSt.ok hg ok st1 (by rw [j_up_own, if_neg (by decide), h29])
    refine jW2_go rfl rfl (H _ _ _ _ _ _ _ ok1) ?_
    rintro v S w S' ⟨I2, L2, J2, L2', x, y, rfl, rfl, rfl, rfl, hh⟩
    dsimp only [Option.toList_some, Option.toList_none, List.cons_append, List.nil_append]
    rw [B21_52_g49, B267_42]
    rcases hh with ⟨now2, nc2, nr2, n2, k2, lt2, st2, rfl, rfl, hh⟩ | ⟨now1, nc1, now2, nr2, hf⟩
    · -- no fault in the first
      obtain ⟨_, _, a3, a4, a5, a6, a7, a8, a9, a10, a11, a12, a13, a14, a15⟩ := id st2
      have st3 := eSt.trans st1 st2
      have st4 := eSt.add hg st3 (by omega) (by omega) 12 0 (nI n) (nI n2) (-1) 20 (nI k) (nI k2) 0 0
      have c94 := add_c49 (d := d + 1) (L := L2) (pa := pa) (pb := pb) (pu := some 49) (pw := pw) a12 (show nc2 < 1201 by omega) 12 0 (nI n) (nI n2) (-1)
      have r66 := node_r (e := e + 1) (L' := L2') a15 (show nr2 < 1400 by omega) 20 (nI k) (nI k2) 0 0
      rw [jgo_some (d := d + 1) rfl c94, jgo_some (d := e + 1) rfl r66]
      dsimp only [Option.toList_some, Option.toList_none, List.cons_append, List.nil_append]
      rw [B21_56_g49, B267_47]
      have f27 : ∀ c i, c ≠ 27 → c ≠ 0 → j_up I1 27 7 (nI (now' + 1)) c i = I1 c i := fun c i h1 _ => by rw [j_up_cell _ h1]
      have g1 : ∀ c, c < 5 → ∀ i, nc ≤ i → i < nc' → I2 (49 + 1 + c) i = I1 (49 + 1 + c) i := fun c hc i _ i2 => by rw [st2.1.2.2.1 c hc i i2, f27 _ _ (by omega) (by omega)]
      have g2 : ∀ c, c < 4 → ∀ i, nr ≤ i → i < nr' → J2 (21 + c) i = J1 (21 + c) i := fun c hc i _ i2 => by rw [st2.2.1.2.1 c hc i i2, j_up_cell _ (by omega)]
      have g3 : ∀ i, nr ≤ i → i < nr' → L2' 25 i = L1' 25 i := fun i _ i2 => st2.2.1.2.2.2.2.2.1 i i2
      -- the join
      have jn : ∃ (n3 la3 : Nat) (I3 : Nat → Nat → Int32), jv (d + 1) 23 0 [some (.ref 27), some (.int (nI n)), some (.int last), some (.int (nI nc2))] [] (shC, adC 49 I2 nc2 12 0 (nI n) (nI n2) (-1), L2, pX pa pb (some 49) pw) = some (some (.int (nI n3)), (shC, I3, L2, pX pa pb (some 49) pw)) ∧ eSt 49 T s now nc nr I L J L' now2 (nc2 + 1) (nr2 + 1) I3 L2 (adR J2 nr2 20 (nI k) (nI k2) 0) (j_up L2' 25 nr2 0) ∧ (pst 49 I2 J2 L2' nl nt lam h false (lam + (now2 - (now' + 1))) s rho nc' nc2 nr' nr2 n2 k2 → chP 49 I3 (adR J2 nr2 20 (nI k) (nI k2) 0) (j_up L2' 25 nr2 0) nl nt lam h false (lam + (now2 - now)) s rho 12 nc (nc2 + 1) nr (nr2 + 1) n3 nr2 nc2) := by
        rcases hp with ⟨rfl, hp⟩ | ⟨la, rfl, hp⟩
        · exact ⟨nc2, nc2, _, join_n49 _ _, st4, fun z => chP.first (by omega) (by omega) hwh hp z (by omega) (by omega) b5 a5 b6 a6 g1 g2 g3 0⟩
        · obtain ⟨_, l1, l2, _⟩ := id hp
          exact ⟨n, nc2, _, join_c49 (show la < 1201 by omega) _ _, eSt.third hg st4 l1 _, fun z => chP.next (by omega) (by omega) hwh hp z (by omega) (by omega) b5 a5 b6 a6 g1 g2 g3 0 _⟩
      obtain ⟨n3, la3, I3, j1, j2, j3⟩ := jn
      rw [jgo_some (d := d + 1) rfl j1]
      dsimp only [Option.toList_some, Option.toList_none, List.cons_append, List.nil_append]
      rw [B21_66_g49, show nI i + 1 = nI (i + 1) from nI_add i 1]
      rcases hh with ⟨h29', hp2⟩ | ⟨h40, h29', h30'⟩
      · exact ih now2 (nc2 + 1) (nr2 + 1) n3 nr2 (i + 1) (nI nc2) I3 _ L2 _ _ (by omega) j2 (by omega) (by rw [(adR_at nr2 20 (nI k) (nI k2) 0).2.2.2.2.2.2.1 29 (by decide)]; exact h29') (by omega) (Or.inr ⟨nc2, rfl, j3 hp2⟩)
      · have tk3 := eSt.tk hg j2 ok.1
        have r29 : adR J2 nr2 20 (nI k) (nI k2) 0 0 29 = 2 := by rw [(adR_at nr2 20 (nI k) (nI k2) 0).2.2.2.2.2.2.1 29 (by decide)]; exact h29'
        have r30 : adR J2 nr2 20 (nI k) (nI k2) 0 0 30 = nI (P now2) := by rw [(adR_at nr2 20 (nI k) (nI k2) 0).2.2.2.2.2.2.1 30 (by decide)]; exact h30'
        have xx := cond_x49 (d := d) (e := e) (i := i + 1) (D := D) (D' := D') (x := nI n3) (y := nI nr2) (last := nI nc2) (o5 := some (.int (nI nc2))) (I1 := I3) (J1 := adR J2 nr2 20 (nI k) (nI k2) 0) (L1 := L2) (L1' := j_up L2' 25 nr2 0) (pa := pa) (pb := pb) (pw := pw)
          (by
            have := nowkey_c (d := d) (pa := pa) (pb := pb) (pu := some 49) (pw := pw) (eSt.kw j2 ok.2.1) tk3 j2.2.2.2.1 j2.2.2.2.2.2.2.2.2.1 j2.2.2.2.2.2.2.2.2.2.1 (k := 8) (by decide)
            rw [if_neg (fun z => by rw [h40] at z; exact absurd z.1 (by decide))] at this
            exact this)
          (Or.inl (by rw [r29]; decide))
        rw [xx.1, xx.2]
        exact jW2_some (eQ.pd (by omega) j2 h40 r29 r30)
    · -- a fault
      have hf1 := eF.pre st1 hf
      have fc := hf1.f
      have q1 := hf1.2.2.2.2.2.2.2.1
      have q2 := hf1.2.2.2.2.2.2.1
      have q3 := hf1.2.2.2.2.2.2.2.2.2.2.2.2.2
      have q4 := hf1.2.2.2.2.2.2.2.2.2.2.2.2.1
      have q5 := hf1.2.2.2.2.2.2.2.2.2.1
      have q6 := hf.2.2.2.2.2.2.2.2.2.2.2.2.1
      have r66 := node_r (e := e + 1) (L' := L2') q3 (show nr2 < 1400 by omega) 20 (nI k) y 0 0
      rw [jgo_some (d := e + 1) rfl r66]
      dsimp only [Option.toList_some, Option.toList_none, List.cons_append, List.nil_append]
      rw [B267_47]
      have hf2 := eF.addR hf1 (by omega) 20 (nI k) y 0 0
      have jn : ∃ (x3 l3 : Int32) (nc3 : Nat) (I3 : Nat → Nat → Int32), jgo jTT jMM (d + 2) 94 [.ref 49, .int 12, .int 0, .int (nI n), .int x, .int (-1)] (shC, I2, L2, pX pa pb (some 49) pw) (fun v S => jv (d + 2) 21 56 [some (.ref 27), some (.int D), some (.int (nI n)), some (.int last), some (.int (nI i)), o5] (v.toList ++ []) S) = jv (d + 2) 21 66 [some (.ref 27), some (.int D), some (.int (nI n)), some (.int last), some (.int (nI i)), some (.int l3)] [.int x3] (shC, I3, L2, pX pa pb (some 49) pw) ∧ eF 49 T s now nc nr I L J L' now1 nc3 now2 (nr2 + 1) I3 L2 (adR J2 nr2 20 (nI k) y 0) (j_up L2' 25 nr2 0) := by
        rcases Nat.lt_or_eq_of_le q2 with z | z
        · rw [jgo_some (d := d + 1) rfl (add_c49 q1 z _ _ _ _ _)]
          dsimp only [Option.toList_some, Option.toList_none, List.cons_append, List.nil_append]
          rw [B21_56_g49]
          have hf3 := eF.addC hg hf2 z 12 0 (nI n) x (-1)
          rcases hp with ⟨rfl, hp⟩ | ⟨la, rfl, hp⟩
          · exact ⟨_, _, _, _, by rw [jgo_some (d := d + 1) rfl (join_n49 _ _)]; rfl, hf3⟩
          · obtain ⟨_, l1, l2, _⟩ := id hp
            exact ⟨_, _, _, _, by rw [jgo_some (d := d + 1) rfl (join_c49 (show la < 1201 by omega) _ _)]; rfl, eF.third hg hf3 l1 _⟩
        · rw [jgo_some (d := d + 1) rfl (add_f49 (by rw [q1, z]) _ _ _ _ _)]
          dsimp only [Option.toList_some, Option.toList_none, List.cons_append, List.nil_append]
          rw [B21_56_g49]
          rcases hp with ⟨rfl, hp⟩ | ⟨la, rfl, hp⟩
          · exact ⟨_, _, _, _, by rw [jgo_some (d := d + 1) rfl (join_n49 _ _)]; rfl, hf2⟩
          · obtain ⟨_, l1, l2, _⟩ := id hp
            exact ⟨_, _, _, _, by rw [jgo_some (d := d + 1) rfl (join_c49 (show la < 1201 by omega) _ _)]; rfl, eF.third hg hf2 l1 _⟩
      obtain ⟨x3, l3, nc3, I3, j1, j2⟩ := jn
      rw [j1, B21_66_g49, show nI i + 1 = nI (i + 1) from nI_add i 1]
      have xx := cond_x49 (d := d) (e := e) (i := i + 1) (D := D) (D' := D') (x := x3) (y := nI nr2) (last := l3) (o5 := some (.int l3)) (I1 := I3) (J1 := adR J2 nr2 20 (nI k) y 0) (L1 := L2) (L1' := j_up L2' 25 nr2 0) (pa := pa) (pb := pb) (pw := pw)
          (nowkey_cf j2.f.1 _) (Or.inl j2.f.2)
      rw [xx.1, xx.2]
      exact jW2_some (eQ.f j2 _ _)
theorem cond_sim49 {d e h : Nat} {D D' : Int32} (H : ∀ (I : Nat → Nat → Int32) (L : Nat → Nat → Int64) (J : Nat → Nat → Int32) (L' : Nat → Nat → Int64) (now nc nr : Nat), pOk 49 T K P W U Q nm kd nb nl nt nu s cw rho now nc nr I L J L' → jW2 (jv (d + 1) 22 0 [some (.ref 27), some (.int D), none, none, none, none] [] (shC, I, L, pX pa pb (some 49) pw)) (jv (e + 1) 268 0 [some (.ref 0), some (.int D'), none] [] (shR, J, L', pR)) (eQ 49 T K P nl nt lam s rho h false now nc nr I L J L' (pX pa pb (some 49) pw))) {I J : Nat → Nat → Int32} {L L' : Nat → Nat → Int64} {now nc nr : Nat} (ok : pOk 49 T K P W U Q nm kd nb nl nt nu s cw rho now nc nr I L J L') : jW2 (jv (d + 2) 21 0 [some (.ref 27), some (.int D), none, none, none, none] [] (shC, I, L, pX pa pb (some 49) pw)) (jv (e + 2) 267 0 [some (.ref 0), some (.int D'), none] [] (shR, J, L', pR)) (eQ 49 T K P nl nt lam s rho (h + 1) false now nc nr I L J L' (pX pa pb (some 49) pw)) := by
  have hg : 49 = 38 ∨ 49 = 49 := by decide
  rw [B21_0_g49, B267_0]
  refine jW2_go rfl rfl (H _ _ _ _ _ _ _ ok) ?_
  rintro v S w S' ⟨I2, L2, J2, L2', x, y, rfl, rfl, rfl, rfl, hh⟩
  dsimp only [Option.toList_some, Option.toList_none, List.cons_append, List.nil_append]
  rw [B21_5_g49, B267_5]
  rcases hh with ⟨now2, nc2, nr2, n2, k2, lt2, st2, rfl, rfl, hh⟩ | ⟨now1, nc1, now2, nr2, hf⟩
  · rcases hh with ⟨h29', hp2⟩ | ⟨h40, h29', h30'⟩
    · exact cond_l49 H ok (T - now2 + 1) now2 nc2 nr2 n2 k2 0 (-1) I2 J2 L2 L2' _ (by omega) st2 lt2 h29' (by omega) (Or.inl ⟨rfl, hp2⟩)
    · have tk3 := eSt.tk hg st2 ok.1
      have xx := cond_x49 (d := d) (e := e) (i := 0) (D := D) (D' := D') (x := nI n2) (y := nI k2) (last := -1) (o5 := none) (I1 := I2) (J1 := J2) (L1 := L2) (L1' := L2') (pa := pa) (pb := pb) (pw := pw)
          (by
            have := nowkey_c (d := d) (pa := pa) (pb := pb) (pu := some 49) (pw := pw) (eSt.kw st2 ok.2.1) tk3 st2.2.2.2.1 st2.2.2.2.2.2.2.2.2.1 st2.2.2.2.2.2.2.2.2.2.1 (k := 8) (by decide)
            rw [if_neg (fun z => by rw [h40] at z; exact absurd z.1 (by decide))] at this
            exact this)
          (Or.inl (by rw [h29']; decide))
      rw [show (0 : Int32) = nI 0 from rfl, xx.1, xx.2]
      exact jW2_some (eQ.pd lt2 st2 h40 h29' h30')
  · have xx := cond_x49 (d := d) (e := e) (i := 0) (D := D) (D' := D') (x := x) (y := y) (last := -1) (o5 := none) (I1 := I2) (J1 := J2) (L1 := L2) (L1' := L2') (pa := pa) (pb := pb) (pw := pw)
          (nowkey_cf hf.f.1 _) (Or.inl hf.f.2)
    rw [show (0 : Int32) = nI 0 from rfl, xx.1, xx.2]
    exact jW2_some (eQ.f hf _ _)
/-- the word does not stand here: the loops end -/
theorem both_x49 {d e i : Nat} {D D' x y last : Int32} {o5 : Option Value} {I1 J1 : Nat → Nat → Int32} {L1 L1' : Nat → Nat → Int64} (hc : jv (d + 1) 9 0 [some (.ref 27), some (.int 7)] [] (shC, I1, L1, pX pa pb (some 49) pw) = some (some (.int 0), (shC, I1, L1, pX pa pb (some 49) pw))) (hr : J1 0 29 ≠ 0 ∨ jv (e + 1) 259 0 [some (.ref 0), some (.ref 2012)] [] (shR, J1, L1', pR) = some (some (.int 0), (shR, J1, L1', pR))) : jv (d + 2) 22 11 [some (.ref 27), some (.int D), some (.int x), some (.int last), some (.int (nI i)), o5] [] (shC, I1, L1, pX pa pb (some 49) pw) = some (some (.int x), (shC, I1, L1, pX pa pb (some 49) pw)) ∧ jv (e + 2) 268 6 [some (.ref 0), some (.int D'), some (.int y)] [] (shR, J1, L1', pR) = some (some (.int y), (shR, J1, L1', pR)) := by
  constructor
  · rw [B22_11_g49]
    by_cases q : nI i < I1 27 6
    · rw [if_pos q, jgo_some (d := d + 1) rfl hc]
      dsimp only [Option.toList_some, Option.toList_none, List.cons_append, List.nil_append]
      rw [B22_26_g49, if_pos rfl, B22_76_g49]
    · rw [if_neg q, B22_76_g49]
  · rw [B268_6]
    by_cases z : J1 0 29 = 0
    · rcases hr with q | q
      · exact absurd z q
      · rw [if_pos z, jgo_some (d := e + 1) rfl q]
        dsimp only [Option.toList_some, Option.toList_none, List.cons_append, List.nil_append]
        rw [B268_20, if_pos rfl, B268_51]
    · rw [if_neg z, B268_51]
theorem both_e49 {d e h : Nat} {D D' : Int32} {I J : Nat → Nat → Int32} {L L' : Nat → Nat → Int64} {now nc nr : Nat} (ok : pOk 49 T K P W U Q nm kd nb nl nt nu s cw rho now nc nr I L J L') {now' nc' nr' n k i : Nat} {last : Int32} {I1 J1 : Nat → Nat → Int32} {L1 L1' : Nat → Nat → Int64} {o5 : Option Value} (st : eSt 49 T s now nc nr I L J L' now' nc' nr' I1 L1 J1 L1') (lt : now < now') (h29 : J1 0 29 = 0) (hp : (last = -1 ∧ pst 49 I1 J1 L1' nl nt lam h false (lam + (now' - now)) s rho nc nc' nr nr' n k) ∨ ∃ la, last = nI la ∧ chP 49 I1 J1 L1' nl nt lam h false (lam + (now' - now)) s rho 13 nc nc' nr nr' n k la) (h1 : ¬ (K now' = 97 ∧ W now' = kwA.getD 7 [])) : jW2 (jv (d + 2) 22 11 [some (.ref 27), some (.int D), some (.int (nI n)), some (.int last), some (.int (nI i)), o5] [] (shC, I1, L1, pX pa pb (some 49) pw)) (jv (e + 2) 268 6 [some (.ref 0), some (.int D'), some (.int (nI k))] [] (shR, J1, L1', pR)) (eQ 49 T K P nl nt lam s rho (h + 1) false now nc nr I L J L' (pX pa pb (some 49) pw)) := by
  have tk := eSt.tk (by decide) st ok.1
  have kw := eSt.kw st ok.2.1
  have np : pst 49 I1 J1 L1' nl nt lam (h + 1) false (lam + (now' - now)) s rho nc nc' nr nr' n k := by
    rcases hp with ⟨_, z⟩ | ⟨la, _, z⟩
    · exact z.frame (by omega) (Nat.le_refl _) (Nat.le_refl _) (Nat.le_refl _) (Nat.le_refl _) (Nat.le_refl _) (fun _ _ _ _ _ => rfl) (fun _ _ _ _ _ => rfl) (fun _ _ _ => rfl)
    · exact z.done (Or.inr ⟨rfl, by decide⟩)
  have xx := both_x49 (d := d) (e := e) (i := i) (D := D) (D' := D') (x := nI n) (y := nI k) (last := last) (o5 := o5) (I1 := I1) (J1 := J1) (L1 := L1) (L1' := L1') (pa := pa) (pb := pb) (pw := pw)
    (by
      have := nowkey_c (d := d) (pa := pa) (pb := pb) (pu := some 49) (pw := pw) kw tk st.2.2.2.1 st.2.2.2.2.2.2.2.2.1 st.2.2.2.2.2.2.2.2.2.1 (k := 7) (by decide)
      rw [if_neg h1] at this
      exact this)
    (Or.inr (by
      have := isw_2012 (e := e) tk st.2.2.2.1 st.2.2.2.2.2.2.2.2.2.2.2.2.2.1
      rw [if_neg h1] at this
      exact this))
  rw [xx.1, xx.2]
  exact jW2_some (eQ.ok lt st h29 np)
theorem both_l49 {d e h : Nat} {D D' : Int32} (H : ∀ (I : Nat → Nat → Int32) (L : Nat → Nat → Int64) (J : Nat → Nat → Int32) (L' : Nat → Nat → Int64) (now nc nr : Nat), pOk 49 T K P W U Q nm kd nb nl nt nu s cw rho now nc nr I L J L' → jW2 (jv (d + 1) 24 0 [some (.ref 27), some (.int D), none, none] [] (shC, I, L, pX pa pb (some 49) pw)) (jv (e + 1) 269 0 [some (.ref 0), some (.int D'), none, none] [] (shR, J, L', pR)) (eQ 49 T K P nl nt lam s rho h false now nc nr I L J L' (pX pa pb (some 49) pw))) {I J : Nat → Nat → Int32} {L L' : Nat → Nat → Int64} {now nc nr : Nat} (ok : pOk 49 T K P W U Q nm kd nb nl nt nu s cw rho now nc nr I L J L') : ∀ (r now' nc' nr' n k i : Nat) (last : Int32) (I1 J1 : Nat → Nat → Int32) (L1 L1' : Nat → Nat → Int64) (o5 : Option Value), T - now' < r → eSt 49 T s now nc nr I L J L' now' nc' nr' I1 L1 J1 L1' → now < now' → J1 0 29 = 0 → i ≤ now' → ((last = -1 ∧ pst 49 I1 J1 L1' nl nt lam h false (lam + (now' - now)) s rho nc nc' nr nr' n k) ∨ ∃ la, last = nI la ∧ chP 49 I1 J1 L1' nl nt lam h false (lam + (now' - now)) s rho 13 nc nc' nr nr' n k la) → jW2 (jv (d + 2) 22 11 [some (.ref 27), some (.int D), some (.int (nI n)), some (.int last), some (.int (nI i)), o5] [] (shC, I1, L1, pX pa pb (some 49) pw)) (jv (e + 2) 268 6 [some (.ref 0), some (.int D'), some (.int (nI k))] [] (shR, J1, L1', pR)) (eQ 49 T K P nl nt lam s rho (h + 1) false now nc nr I L J L' (pX pa pb (some 49) pw)) := by
  intro r
  induction r with
  | zero => intro now' nc' nr' n k i last I1 J1 L1 L1' o5 hr; exact absurd hr (Nat.not_lt_zero _)
  | succ r ih =>
    intro now' nc' nr' n k i last I1 J1 L1 L1' o5 hr st lt h29 hi hp
    by_cases h12 : K now' = 97 ∧ W now' = kwA.getD 7 []
    case neg => exact both_e49 ok st lt h29 hp h12
    have hg : 49 = 38 ∨ 49 = 49 := by decide
    have tk := eSt.tk hg st ok.1
    have hT := ok.1.1
    have ltT : now' < T := tk.lt st.2.2.2.1 h12.1 (by decide)
    have kw := eSt.kw st ok.2.1
    obtain ⟨b1, b2, b3, b4, b5, b6, b7, b8, b9, b10, b11, b12, b13, b14, b15⟩ := id st
    have hnc := ok.2.2.2.2.2.1
    have hnr := ok.2.2.2.2.2.2.1
    have kq := tk.2.2.2.1 now' b4
    -- the first program's step
    have cs : jv (d + 2) 22 11 [some (.ref 27), some (.int D), some (.int (nI n)), some (.int last), some (.int (nI i)), o5] [] (shC, I1, L1, pX pa pb (some 49) pw) = jgo jTT jMM (d + 2) 24 [.ref 27, .int D] (shC, j_up I1 27 7 (nI (now' + 1)), L1, pX pa pb (some 49) pw) (fun v S => jv (d + 2) 22 52 [some (.ref 27), some (.int D), some (.int (nI n)), some (.int last), some (.int (nI i)), o5] (v.toList ++ [.int (nI n), .int 0, .int 13, .ref 49]) S) := by
      have := nowkey_c (d := d) (pa := pa) (pb := pb) (pu := some 49) (pw := pw) kw tk b4 b9 b10 (k := 7) (by decide)
      rw [if_pos h12, show nI 7 = (7 : Int32) from rfl] at this
      rw [B22_11_g49, tk.2.1, if_pos (nI_lt (by omega) (by omega)), jgo_some (d := d + 1) rfl this]
      dsimp only [Option.toList_some, Option.toList_none, List.cons_append, List.nil_append]
      rw [B22_26_g49, if_neg (by decide), b10, show nI now' + 1 = nI (now' + 1) from nI_add now' 1]
    have rs : jv (e + 2) 268 6 [some (.ref 0), some (.int D'), some (.int (nI k))] [] (shR, J1, L1', pR) = jgo jTT jMM (e + 2) 269 [.ref 0, .int D'] (shR, j_up J1 0 28 (nI (now' + 1)), L1', pR) (fun v S => jv (e + 2) 268 42 [some (.ref 0), some (.int D'), some (.int (nI k))] (v.toList ++ [.int (nI k), .int 21, .ref 0]) S) := by
      have := isw_2012 (e := e) tk b4 b14
      rw [if_pos h12] at this
      rw [B268_6, if_pos h29, jgo_some (d := e + 1) rfl this]
      dsimp only [Option.toList_some, Option.toList_none, List.cons_append, List.nil_append]
      rw [B268_20, if_neg (by decide), b14, show nI now' + 1 = nI (now' + 1) from nI_add now' 1]
    have hwh : opC 13 0 21 := by unfold opC; decide
    rw [cs, rs]
    have st1 := eSt.adv hg st ltT
    have ok1 : pOk 49 T K P W U Q nm kd nb nl nt nu s cw rho (now' + 1) nc' nr' (j_up I1 27 7 (nI (now' + 1))) L1 (j_up J1 0 28 (nI (now' + 1))) L1' := eSt.ok hg ok st1 (by rw [j_up_own, if_neg (by decide), h29])
    refine jW2_go rfl rfl (H _ _ _ _ _ _ _ ok1) ?_
    rintro v S w S' ⟨I2, L2, J2, L2', x, y, rfl, rfl, rfl, rfl, hh⟩
    dsimp only [Option.toList_some, Option.toList_none, List.cons_append, List.nil_append]
    rw [B22_52_g49, B268_42]
    rcases hh with ⟨now2, nc2, nr2, n2, k2, lt2, st2, rfl, rfl, hh⟩ | ⟨now1, nc1, now2, nr2, hf⟩
    · -- no fault in the first
      obtain ⟨_, _, a3, a4, a5, a6, a7, a8, a9, a10, a11, a12, a13, a14, a15⟩ := id st2
      have st3 := eSt.trans st1 st2
      have st4 := eSt.add hg st3 (by omega) (by omega) 13 0 (nI n) (nI n2) (-1) 21 (nI k) (nI k2) 0 0
      have c94 := add_c49 (d := d + 1) (L := L2) (pa := pa) (pb := pb) (pu := some 49) (pw := pw) a12 (show nc2 < 1201 by omega) 13 0 (nI n) (nI n2) (-1)
      have r66 := node_r (e := e + 1) (L' := L2') a15 (show nr2 < 1400 by omega) 21 (nI k) (nI k2) 0 0
      rw [jgo_some (d := d + 1) rfl c94, jgo_some (d := e + 1) rfl r66]
      dsimp only [Option.toList_some, Option.toList_none, List.cons_append, List.nil_append]
      rw [B22_56_g49, B268_47]
      have f27 : ∀ c i, c ≠ 27 → c ≠ 0 → j_up I1 27 7 (nI (now' + 1)) c i = I1 c i := fun c i h1 _ => by rw [j_up_cell _ h1]
      have g1 : ∀ c, c < 5 → ∀ i, nc ≤ i → i < nc' → I2 (49 + 1 + c) i = I1 (49 + 1 + c) i := fun c hc i _ i2 => by rw [st2.1.2.2.1 c hc i i2, f27 _ _ (by omega) (by omega)]
      have g2 : ∀ c, c < 4 → ∀ i, nr ≤ i → i < nr' → J2 (21 + c) i = J1 (21 + c) i := fun c hc i _ i2 => by rw [st2.2.1.2.1 c hc i i2, j_up_cell _ (by omega)]
      have g3 : ∀ i, nr ≤ i → i < nr' → L2' 25 i = L1' 25 i := fun i _ i2 => st2.2.1.2.2.2.2.2.1 i i2
      -- the join
      have jn : ∃ (n3 la3 : Nat) (I3 : Nat → Nat → Int32), jv (d + 1) 23 0 [some (.ref 27), some (.int (nI n)), some (.int last), some (.int (nI nc2))] [] (shC, adC 49 I2 nc2 13 0 (nI n) (nI n2) (-1), L2, pX pa pb (some 49) pw) = some (some (.int (nI n3)), (shC, I3, L2, pX pa pb (some 49) pw)) ∧ eSt 49 T s now nc nr I L J L' now2 (nc2 + 1) (nr2 + 1) I3 L2 (adR J2 nr2 21 (nI k) (nI k2) 0) (j_up L2' 25 nr2 0) ∧ (pst 49 I2 J2 L2' nl nt lam h false (lam + (now2 - (now' + 1))) s rho nc' nc2 nr' nr2 n2 k2 → chP 49 I3 (adR J2 nr2 21 (nI k) (nI k2) 0) (j_up L2' 25 nr2 0) nl nt lam h false (lam + (now2 - now)) s rho 13 nc (nc2 + 1) nr (nr2 + 1) n3 nr2 nc2) := by
        rcases hp with ⟨rfl, hp⟩ | ⟨la, rfl, hp⟩
        · exact ⟨nc2, nc2, _, join_n49 _ _, st4, fun z => chP.first (by omega) (by omega) hwh hp z (by omega) (by omega) b5 a5 b6 a6 g1 g2 g3 0⟩
        · obtain ⟨_, l1, l2, _⟩ := id hp
          exact ⟨n, nc2, _, join_c49 (show la < 1201 by omega) _ _, eSt.third hg st4 l1 _, fun z => chP.next (by omega) (by omega) hwh hp z (by omega) (by omega) b5 a5 b6 a6 g1 g2 g3 0 _⟩
      obtain ⟨n3, la3, I3, j1, j2, j3⟩ := jn
      rw [jgo_some (d := d + 1) rfl j1]
      dsimp only [Option.toList_some, Option.toList_none, List.cons_append, List.nil_append]
      rw [B22_66_g49, show nI i + 1 = nI (i + 1) from nI_add i 1]
      rcases hh with ⟨h29', hp2⟩ | ⟨h40, h29', h30'⟩
      · exact ih now2 (nc2 + 1) (nr2 + 1) n3 nr2 (i + 1) (nI nc2) I3 _ L2 _ _ (by omega) j2 (by omega) (by rw [(adR_at nr2 21 (nI k) (nI k2) 0).2.2.2.2.2.2.1 29 (by decide)]; exact h29') (by omega) (Or.inr ⟨nc2, rfl, j3 hp2⟩)
      · have tk3 := eSt.tk hg j2 ok.1
        have r29 : adR J2 nr2 21 (nI k) (nI k2) 0 0 29 = 2 := by rw [(adR_at nr2 21 (nI k) (nI k2) 0).2.2.2.2.2.2.1 29 (by decide)]; exact h29'
        have r30 : adR J2 nr2 21 (nI k) (nI k2) 0 0 30 = nI (P now2) := by rw [(adR_at nr2 21 (nI k) (nI k2) 0).2.2.2.2.2.2.1 30 (by decide)]; exact h30'
        have xx := both_x49 (d := d) (e := e) (i := i + 1) (D := D) (D' := D') (x := nI n3) (y := nI nr2) (last := nI nc2) (o5 := some (.int (nI nc2))) (I1 := I3) (J1 := adR J2 nr2 21 (nI k) (nI k2) 0) (L1 := L2) (L1' := j_up L2' 25 nr2 0) (pa := pa) (pb := pb) (pw := pw)
          (by
            have := nowkey_c (d := d) (pa := pa) (pb := pb) (pu := some 49) (pw := pw) (eSt.kw j2 ok.2.1) tk3 j2.2.2.2.1 j2.2.2.2.2.2.2.2.2.1 j2.2.2.2.2.2.2.2.2.2.1 (k := 7) (by decide)
            rw [if_neg (fun z => by rw [h40] at z; exact absurd z.1 (by decide))] at this
            exact this)
          (Or.inl (by rw [r29]; decide))
        rw [xx.1, xx.2]
        exact jW2_some (eQ.pd (by omega) j2 h40 r29 r30)
    · -- a fault
      have hf1 := eF.pre st1 hf
      have fc := hf1.f
      have q1 := hf1.2.2.2.2.2.2.2.1
      have q2 := hf1.2.2.2.2.2.2.1
      have q3 := hf1.2.2.2.2.2.2.2.2.2.2.2.2.2
      have q4 := hf1.2.2.2.2.2.2.2.2.2.2.2.2.1
      have q5 := hf1.2.2.2.2.2.2.2.2.2.1
      have q6 := hf.2.2.2.2.2.2.2.2.2.2.2.2.1
      have r66 := node_r (e := e + 1) (L' := L2') q3 (show nr2 < 1400 by omega) 21 (nI k) y 0 0
      rw [jgo_some (d := e + 1) rfl r66]
      dsimp only [Option.toList_some, Option.toList_none, List.cons_append, List.nil_append]
      rw [B268_47]
      have hf2 := eF.addR hf1 (by omega) 21 (nI k) y 0 0
      have jn : ∃ (x3 l3 : Int32) (nc3 : Nat) (I3 : Nat → Nat → Int32), jgo jTT jMM (d + 2) 94 [.ref 49, .int 13, .int 0, .int (nI n), .int x, .int (-1)] (shC, I2, L2, pX pa pb (some 49) pw) (fun v S => jv (d + 2) 22 56 [some (.ref 27), some (.int D), some (.int (nI n)), some (.int last), some (.int (nI i)), o5] (v.toList ++ []) S) = jv (d + 2) 22 66 [some (.ref 27), some (.int D), some (.int (nI n)), some (.int last), some (.int (nI i)), some (.int l3)] [.int x3] (shC, I3, L2, pX pa pb (some 49) pw) ∧ eF 49 T s now nc nr I L J L' now1 nc3 now2 (nr2 + 1) I3 L2 (adR J2 nr2 21 (nI k) y 0) (j_up L2' 25 nr2 0) := by
        rcases Nat.lt_or_eq_of_le q2 with z | z
        · rw [jgo_some (d := d + 1) rfl (add_c49 q1 z _ _ _ _ _)]
          dsimp only [Option.toList_some, Option.toList_none, List.cons_append, List.nil_append]
          rw [B22_56_g49]
          have hf3 := eF.addC hg hf2 z 13 0 (nI n) x (-1)
          rcases hp with ⟨rfl, hp⟩ | ⟨la, rfl, hp⟩
          · exact ⟨_, _, _, _, by rw [jgo_some (d := d + 1) rfl (join_n49 _ _)]; rfl, hf3⟩
          · obtain ⟨_, l1, l2, _⟩ := id hp
            exact ⟨_, _, _, _, by rw [jgo_some (d := d + 1) rfl (join_c49 (show la < 1201 by omega) _ _)]; rfl, eF.third hg hf3 l1 _⟩
        · rw [jgo_some (d := d + 1) rfl (add_f49 (by rw [q1, z]) _ _ _ _ _)]
          dsimp only [Option.toList_some, Option.toList_none, List.cons_append, List.nil_append]
          rw [B22_56_g49]
          rcases hp with ⟨rfl, hp⟩ | ⟨la, rfl, hp⟩
          · exact ⟨_, _, _, _, by rw [jgo_some (d := d + 1) rfl (join_n49 _ _)]; rfl, hf2⟩
          · obtain ⟨_, l1, l2, _⟩ := id hp
            exact ⟨_, _, _, _, by rw [jgo_some (d := d + 1) rfl (join_c49 (show la < 1201 by omega) _ _)]; rfl, eF.third hg hf2 l1 _⟩
      obtain ⟨x3, l3, nc3, I3, j1, j2⟩ := jn
      rw [j1, B22_66_g49, show nI i + 1 = nI (i + 1) from nI_add i 1]
      have xx := both_x49 (d := d) (e := e) (i := i + 1) (D := D) (D' := D') (x := x3) (y := nI nr2) (last := l3) (o5 := some (.int l3)) (I1 := I3) (J1 := adR J2 nr2 21 (nI k) y 0) (L1 := L2) (L1' := j_up L2' 25 nr2 0) (pa := pa) (pb := pb) (pw := pw)
          (nowkey_cf j2.f.1 _) (Or.inl j2.f.2)
      rw [xx.1, xx.2]
      exact jW2_some (eQ.f j2 _ _)
theorem both_sim49 {d e h : Nat} {D D' : Int32} (H : ∀ (I : Nat → Nat → Int32) (L : Nat → Nat → Int64) (J : Nat → Nat → Int32) (L' : Nat → Nat → Int64) (now nc nr : Nat), pOk 49 T K P W U Q nm kd nb nl nt nu s cw rho now nc nr I L J L' → jW2 (jv (d + 1) 24 0 [some (.ref 27), some (.int D), none, none] [] (shC, I, L, pX pa pb (some 49) pw)) (jv (e + 1) 269 0 [some (.ref 0), some (.int D'), none, none] [] (shR, J, L', pR)) (eQ 49 T K P nl nt lam s rho h false now nc nr I L J L' (pX pa pb (some 49) pw))) {I J : Nat → Nat → Int32} {L L' : Nat → Nat → Int64} {now nc nr : Nat} (ok : pOk 49 T K P W U Q nm kd nb nl nt nu s cw rho now nc nr I L J L') : jW2 (jv (d + 2) 22 0 [some (.ref 27), some (.int D), none, none, none, none] [] (shC, I, L, pX pa pb (some 49) pw)) (jv (e + 2) 268 0 [some (.ref 0), some (.int D'), none] [] (shR, J, L', pR)) (eQ 49 T K P nl nt lam s rho (h + 1) false now nc nr I L J L' (pX pa pb (some 49) pw)) := by
  have hg : 49 = 38 ∨ 49 = 49 := by decide
  rw [B22_0_g49, B268_0]
  refine jW2_go rfl rfl (H _ _ _ _ _ _ _ ok) ?_
  rintro v S w S' ⟨I2, L2, J2, L2', x, y, rfl, rfl, rfl, rfl, hh⟩
  dsimp only [Option.toList_some, Option.toList_none, List.cons_append, List.nil_append]
  rw [B22_5_g49, B268_5]
  rcases hh with ⟨now2, nc2, nr2, n2, k2, lt2, st2, rfl, rfl, hh⟩ | ⟨now1, nc1, now2, nr2, hf⟩
  · rcases hh with ⟨h29', hp2⟩ | ⟨h40, h29', h30'⟩
    · exact both_l49 H ok (T - now2 + 1) now2 nc2 nr2 n2 k2 0 (-1) I2 J2 L2 L2' _ (by omega) st2 lt2 h29' (by omega) (Or.inl ⟨rfl, hp2⟩)
    · have tk3 := eSt.tk hg st2 ok.1
      have xx := both_x49 (d := d) (e := e) (i := 0) (D := D) (D' := D') (x := nI n2) (y := nI k2) (last := -1) (o5 := none) (I1 := I2) (J1 := J2) (L1 := L2) (L1' := L2') (pa := pa) (pb := pb) (pw := pw)
          (by
            have := nowkey_c (d := d) (pa := pa) (pb := pb) (pu := some 49) (pw := pw) (eSt.kw st2 ok.2.1) tk3 st2.2.2.2.1 st2.2.2.2.2.2.2.2.2.1 st2.2.2.2.2.2.2.2.2.2.1 (k := 7) (by decide)
            rw [if_neg (fun z => by rw [h40] at z; exact absurd z.1 (by decide))] at this
            exact this)
          (Or.inl (by rw [h29']; decide))
      rw [show (0 : Int32) = nI 0 from rfl, xx.1, xx.2]
      exact jW2_some (eQ.pd lt2 st2 h40 h29' h30')
  · have xx := both_x49 (d := d) (e := e) (i := 0) (D := D) (D' := D') (x := x) (y := y) (last := -1) (o5 := none) (I1 := I2) (J1 := J2) (L1 := L2) (L1' := L2') (pa := pa) (pb := pb) (pw := pw)
          (nowkey_cf hf.f.1 _) (Or.inl hf.f.2)
    rw [show (0 : Int32) = nI 0 from rfl, xx.1, xx.2]
    exact jW2_some (eQ.f hf _ _)
end PARI
