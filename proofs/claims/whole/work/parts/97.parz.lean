/-! RULES: the whole text read, in both: statements -/
section PARZ
variable {T : Nat} {K P : Nat → Nat} {W : Nat → List Nat} {U : Nat → Nat} {Q : Nat} {nm : Nat → List Nat} {kd nb : Nat → Nat} {nl nt nu s : Nat} {cw : Nat → List Nat} {rho : Nat → Nat} {lam : Nat} {pa pb pw : Option Nat}
/-- both programs that were read mean the same -/
def prG (g : Nat) (I J : Nat → Nat → Int32) (L' : Nat → Nat → Int64) : Prop := ∃ (nl nt nu np nc nr : Nat) (wl : Nat → Nat), nl ≤ 40 ∧ nt ≤ 8 ∧ nu ≤ 24 ∧ np ≤ 96 ∧ I g 11 = nI nl ∧ I g 12 = nI nt ∧ I g 13 = nI nu ∧ J 0 39 = nI nl ∧ J 0 46 = nI nt ∧ J 0 49 = nI nu ∧ prL g nl nt wl nc nr I J L' ∧ prU g nl nt nu wl nc nr I J L' ∧ prT g nt np I J L' ∧ (∀ i j, i ≤ j → wl i ≤ wl j) ∧ wl nl ≤ 1200
theorem pS.g {g : Nat} {wl : Nat → Nat} {np : Nat} {I J : Nat → Nat → Int32} {L L' : Nat → Nat → Int64} {now nc nr : Nat} (hS : pS g T K P W U Q nm kd nb nl nt nu wl np now nc nr I L J L') : prG g I J L' := by
  obtain ⟨ok, s1, s2, s3, s4, s5, s6, s7, s8, s9, s10, s11⟩ := hS
  have hN := ok.2.2.1
  have hT := ok.1.1
  have h5 := ok.2.2.2.2.1
  have b1 := hN.2.2.1
  have b2 := hN.2.2.2.1
  have b3 := hN.2.2.2.2.1
  exact ⟨nl, nt, nu, np, nc, nr, wl, b1, b2, b3, by omega, s1, s2, s3, hN.2.2.2.2.2.1, hN.2.2.2.2.2.2.1, hN.2.2.2.2.2.2.2.1, s7, s8, s9, s10, by omega⟩
theorem prG.congr {g : Nat} {I J I2 J2 : Nat → Nat → Int32} {L' L2' : Nat → Nat → Int64} (h : prG g I J L') (e1 : ∀ c, g ≤ c → c ≤ g + 10 → I2 c = I c) (e2 : ∀ q, q = 39 ∨ q = 46 ∨ q = 49 → J2 0 q = J 0 q) (e3 : ∀ c, 21 ≤ c → c ≤ 34 → J2 c = J c) (e4 : ∀ c, c = 25 ∨ c = 31 ∨ c = 32 → L2' c = L' c) : prG g I2 J2 L2' := by
  obtain ⟨nl, nt, nu, np, nc, nr, wl, a1, a2, a3, a4, a5, a6, a7, a8, a9, a10, a11, a12, a13, a14, a15⟩ := h
  have eg := e1 g (Nat.le_refl _) (by omega)
  refine ⟨nl, nt, nu, np, nc, nr, wl, a1, a2, a3, a4, by rw [eg]; exact a5, by rw [eg]; exact a6, by rw [eg]; exact a7, by rw [e2 39 (by decide)]; exact a8, by rw [e2 46 (by decide)]; exact a9, by rw [e2 49 (by decide)]; exact a10, ?_, ?_, ?_, a14, a15⟩
  · exact prL.mv a11 (Nat.le_refl _) (Nat.le_refl _) (Nat.le_refl _) (fun i _ => by rw [e1 (g + 6) (by omega) (by omega)]) (fun i _ => by rw [e3 27 (by decide) (by decide)]) (fun c hc i _ => by rw [e1 (g + 1 + c) (by omega) (by omega)]) (fun c hc i _ => by rw [e3 (21 + c) (by omega) (by omega)]) (fun i _ => by rw [e4 25 (by decide)]) (fun _ _ => rfl)
  · exact prU.mv a12 (Nat.le_refl _) (Nat.le_refl _) (Nat.le_refl _) (Nat.le_refl _) (fun i _ => by rw [e1 (g + 7) (by omega) (by omega)]) (fun i _ => by rw [e3 34 (by decide) (by decide)]) (fun c hc i _ => by rw [e1 (g + 1 + c) (by omega) (by omega)]) (fun c hc i _ => by rw [e3 (21 + c) (by omega) (by omega)]) (fun i _ => by rw [e4 25 (by decide)]) (fun _ _ => rfl)
  · exact prT.mv a13 (Nat.le_refl _) (fun i _ => by rw [e3 29 (by decide) (by decide)]) (fun i _ => by rw [e3 30 (by decide) (by decide)]) (fun i _ => by rw [e1 (g + 10) (by omega) (by omega)]) (fun i _ => by rw [e1 (g + 8) (by omega) (by omega)]) (fun i _ => by rw [e1 (g + 9) (by omega) (by omega)]) (fun i _ => by rw [e4 31 (by decide)]) (fun i _ => by rw [e4 32 (by decide)])
/-- the outcome of all statements -/
def plX (g : Nat) (I : Nat → Nat → Int32) (L : Nat → Nat → Int64) (J : Nat → Nat → Int32) (L' : Nat → Nat → Int64) (px : Nat → Nat → Option Nat) (v : Option Value) (S : jS) (w : Option Value) (S' : jS) : Prop := ∃ I1 L1 J1 L1' x, v = some (.int x) ∧ w = some (.int x) ∧ S = (shC, I1, L1, px) ∧ S' = (shR, J1, L1', pR) ∧ sFr g I I1 L L1 J J1 L' L1' ∧ ((x = 1 ∧ prG g I1 J1 L1' ∧ I1 27 0 = 0 ∧ J1 0 29 = 0) ∨ (x = 0 ∧ sB I1 J1))
/-- what reading a text leaves as it was -/
def pF (g : Nat) (I I1 : Nat → Nat → Int32) (L L1 : Nat → Nat → Int64) (J J1 : Nat → Nat → Int32) (L' L1' : Nat → Nat → Int64) : Prop :=
  (∀ c, c < 27 ∨ 37 < c → c < g ∨ g + 10 < c → I1 c = I c) ∧ (∀ c, c < 30 ∨ 34 < c → L1 c = L c) ∧ (∀ c, c ≠ 0 → c < 18 ∨ 36 < c → J1 c = J c) ∧ (∀ q, q < 27 ∨ 52 < q → J1 0 q = J 0 q) ∧ (∀ c, c < 20 ∨ 35 < c → L1' c = L' c)
def psQ (g : Nat) (I : Nat → Nat → Int32) (L : Nat → Nat → Int64) (J : Nat → Nat → Int32) (L' : Nat → Nat → Int64) (px : Nat → Nat → Option Nat) (v : Option Value) (S : jS) (w : Option Value) (S' : jS) : Prop := ∃ I1 L1 J1 L1' x, v = some (.int x) ∧ w = some (.int x) ∧ S = (shC, I1, L1, px) ∧ S' = (shR, J1, L1', pR) ∧ pF g I I1 L L1 J J1 L' L1' ∧ ((x = 1 ∧ prG g I1 J1 L1' ∧ I1 27 0 = 0 ∧ J1 0 29 = 0) ∨ (x = 0 ∧ sB I1 J1))
theorem parse_e38_1 {d e : Nat} {I1 J1 : Nat → Nat → Int32} {L1 L1' : Nat → Nat → Int64} (h1 : I1 27 0 ≠ 0) (h2 : J1 0 29 ≠ 0) (c : Int32) : jv d 2 36 [some (.ref 27), some (.ref 1), some (.ref 38), some (.int c)] [] (shC, I1, L1, pX pa pb (some 38) pw) = some (some (.int 0), (shC, I1, L1, pX pa pb (some 38) pw)) ∧ jv e 261 56 [some (.ref 0), some (.ref 6)] [] (shR, J1, L1', pR) = some (some (.int 0), (shR, J1, L1', pR)) := by
  constructor
  · have e1 : jv d 2 124 [some (.ref 27), some (.ref 1), some (.ref 38), some (.int c)] [] (shC, I1, L1, pX pa pb (some 38) pw) = some (some (.int 0), (shC, I1, L1, pX pa pb (some 38) pw)) := by
      rw [B2_124_m1_g38, if_neg h1, B2_136_m1_g38, if_pos (by decide)]
    rw [B2_36_m1_g38]
    by_cases q : c < I1 27 6
    · rw [if_pos q, if_neg h1, e1]
    · rw [if_neg q, e1]
  · rw [B261_56_a6, if_neg h2, B261_78_a6, if_neg h2, B261_90_a6, if_pos (by decide)]
theorem parse_l38_1 {d e : Nat} (hd : 140 ≤ d) (he : 140 ≤ e) {Q0 : Nat} : ∀ (r : Nat) (Q : Nat) (nm : Nat → List Nat) (kd nb : Nat → Nat) (nl nt nu : Nat) (wl : Nat → Nat) (np now nc nr c : Nat) (I : Nat → Nat → Int32) (L : Nat → Nat → Int64) (J : Nat → Nat → Int32) (L' : Nat → Nat → Int64), T - now < r → pS 38 T K P W U Q nm kd nb nl nt nu wl np now nc nr I L J L' → c ≤ now → jW2 (jv (d + 2) 2 36 [some (.ref 27), some (.ref 1), some (.ref 38), some (.int (nI c))] [] (shC, I, L, pX pa pb (some 38) pw)) (jv (e + 2) 261 56 [some (.ref 0), some (.ref 6)] [] (shR, J, L', pR)) (plX 38 I L J L' (pX pa pb (some 38) pw)) := by
  have hg : 38 = 38 ∨ 38 = 49 := by decide
  intro r
  induction r with
  | zero => intro Q nm kd nb nl nt nu wl np now nc nr c I L J L' hr; exact absurd hr (Nat.not_lt_zero _)
  | succ r ih =>
    intro Q nm kd nb nl nt nu wl np now nc nr c I L J L' hr hS hc
    have ok := hS.1
    obtain ⟨tk, kw, hN, hC, a5, a6, a7, a8, a9, a10, a11, a12, a13⟩ := id ok
    have hT := tk.1
    have tq := tk.2.2.2.1 now a5
    have i0 := is_r (e := e + 1) tk a5 a11 (k := 0) (by decide)
    rw [show nI (kR 0) = (0 : Int32) from rfl] at i0
    have hkl := kR_lt _ tq.2.2.2.2
    rw [B261_56_a6, if_pos a9, jgo_some (d := e + 1) rfl i0]
    dsimp only [Option.toList_some, Option.toList_none, List.cons_append, List.nil_append]
    rw [B261_68_a6]
    by_cases q0 : K now = 0
    · have e1 : jv (d + 2) 2 124 [some (.ref 27), some (.ref 1), some (.ref 38), some (.int (nI c))] [] (shC, I, L, pX pa pb (some 38) pw) = some (some (.int 1), (shC, I, L, pX pa pb (some 38) pw)) := by
        rw [B2_124_m1_g38, if_pos a8, B2_136_m1_g38, if_pos (by decide)]
      have e2 : jv (d + 2) 2 36 [some (.ref 27), some (.ref 1), some (.ref 38), some (.int (nI c))] [] (shC, I, L, pX pa pb (some 38) pw) = some (some (.int 1), (shC, I, L, pX pa pb (some 38) pw)) := by
        rw [B2_36_m1_g38]
        by_cases q : nI c < I 27 6
        · rw [if_pos q, if_pos a8, a10, if_pos (j_in_nI (by omega) (by decide)), nI_clamp (by omega), tq.1, if_pos (by rw [q0]; rfl), e1]
        · rw [if_neg q, e1]
      rw [e2, if_pos q0, if_neg (by decide), B261_78_a6, if_pos a9, B261_90_a6, if_pos (by decide)]
      exact jW2_some ⟨I, L, J, L', 1, rfl, rfl, rfl, rfl, sFr.refl, Or.inl ⟨rfl, hS.g, a8, a9⟩⟩
    have lt : now < T := tk.lt a5 rfl q0
    -- behind a statement
    have aft : ∀ v S w S', sQ 38 T K P W U now I L J L' (pX pa pb (some 38) pw) v S w S' → (jW2 (jv (d + 2) 2 118 [some (.ref 27), some (.ref 1), some (.ref 38), some (.int (nI c))] [] S) (jv (e + 2) 261 56 [some (.ref 0), some (.ref 6)] [] S') (plX 38 I L J L' (pX pa pb (some 38) pw)) ∧ v = none ∧ w = none) := by
      rintro v S w S' ⟨I1, L1, J1, L1', rfl, rfl, rfl, rfl, fr, z⟩
      refine ⟨?_, rfl, rfl⟩
      rw [B2_118_m1_g38, show nI c + 1 = nI (c + 1) from nI_add c 1]
      rcases z with ⟨Q2, nm2, kd2, nb2, nl2, nt2, nu2, wl2, np2, now2, nc2, nr2, lt2, hS2⟩ | hb
      · have h2 := hS2.1.2.2.2.2.1
        refine jW2_mono (ih Q2 nm2 kd2 nb2 nl2 nt2 nu2 wl2 np2 now2 nc2 nr2 (c + 1) I1 L1 J1 L1' (by omega) hS2 (by omega)) ?_
        rintro v S w S' ⟨I2, L2, J2, L2', x, e1, e2, e3, e4, fr2, z2⟩
        exact ⟨I2, L2, J2, L2', x, e1, e2, e3, e4, fr.trans fr2, z2⟩
      · have pe := parse_e38_1 (d := d + 2) (e := e + 2) (L1 := L1) (L1' := L1') (pa := pa) (pb := pb) (pw := pw) hb.f.1 hb.f.2 (nI (c + 1))
        rw [pe.1, pe.2]
        exact jW2_some ⟨I1, L1, J1, L1', 0, rfl, rfl, rfl, rfl, fr, Or.inr ⟨rfl, hb⟩⟩
    rw [if_neg q0, if_pos rfl, B2_36_m1_g38, tk.2.1, if_pos (nI_lt (by omega) (by omega)), if_pos a8, a10, if_pos (j_in_nI (by omega) (by decide)), nI_clamp (by omega), tq.1, if_neg (show ¬ nI (K now) = (0 : Int32) from fun z => q0 ((nI_eq (b := 0) (by omega) (by decide)).mp z)), show (0 : Int32) = nI 0 from rfl, jgo_some (d := d + 1) rfl (nowkey_c (d := d) kw tk a5 a8 a10 (k := 0) (by decide))]
    dsimp only [Option.toList_some, Option.toList_none, List.cons_append, List.nil_append]
    rw [B2_68_m1_g38]
    have r0 := isw_2005 (e := e - 1) tk a5 a11
    have r1 := isw_2006 (e := e - 1) tk a5 a11
    have r2 := isw_2007 (e := e - 1) tk a5 a11
    rw [show e - 1 + 1 = e by omega] at r0 r1 r2
    by_cases k0 : K now = 97 ∧ W now = kwA.getD 0 []
    · have rs : jv (e + 1) 262 0 [some (.ref 0), none, none, none, none, none] [] (shR, J, L', pR) = jv (e + 1) 262 43 [some (.ref 0), none, none, none, none, none] [.int 1] (shR, J, L', pR) := by
        rw [B262_0, jgo_some (d := e) rfl r0, if_pos k0]
        dsimp only [Option.toList_some, Option.toList_none, List.cons_append, List.nil_append]
        rw [B262_7, if_neg (by decide)]
      rw [if_pos k0, if_neg (by decide)]
      refine jW2_go rfl rfl (show jW2 (jv (d + 1) 13 0 [some (.ref 27), none, none, none] [] (shC, I, L, pX pa pb (some 38) pw)) (jv (e + 1) 262 0 [some (.ref 0), none, none, none, none, none] [] (shR, J, L', pR)) _ by rw [rs]; exact let_sim38 (by omega) (by omega) hS k0.1) ?_
      intro v S w S' hq
      obtain ⟨z, rfl, rfl⟩ := aft v S w S' hq
      obtain ⟨I1, L1, J1, L1', _, _, rfl, rfl, _⟩ := id hq
      dsimp only [Option.toList_some, Option.toList_none, List.cons_append, List.nil_append]
      rw [B2_75_m1_g38, B261_75_a6]
      exact z
    rw [if_neg k0, if_pos rfl, show (1 : Int32) = nI 1 from rfl, jgo_some (d := d + 1) rfl (nowkey_c (d := d) kw tk a5 a8 a10 (k := 1) (by decide))]
    dsimp only [Option.toList_some, Option.toList_none, List.cons_append, List.nil_append]
    rw [B2_83_m1_g38]
    by_cases k1 : K now = 97 ∧ W now = kwA.getD 1 []
    · have rs : jv (e + 1) 262 0 [some (.ref 0), none, none, none, none, none] [] (shR, J, L', pR) = jv (e + 1) 262 43 [some (.ref 0), none, none, none, none, none] [.int 2] (shR, J, L', pR) := by
        rw [B262_0, jgo_some (d := e) rfl r0, if_neg k0]
        dsimp only [Option.toList_some, Option.toList_none, List.cons_append, List.nil_append]
        rw [B262_7, if_pos rfl, jgo_some (d := e) rfl r1, if_pos k1]
        dsimp only [Option.toList_some, Option.toList_none, List.cons_append, List.nil_append]
        rw [B262_21, if_neg (by decide)]
      rw [if_pos k1, if_neg (by decide)]
      refine jW2_go rfl rfl (show jW2 (jv (d + 1) 15 0 [some (.ref 27), none, none, none] [] (shC, I, L, pX pa pb (some 38) pw)) (jv (e + 1) 262 0 [some (.ref 0), none, none, none, none, none] [] (shR, J, L', pR)) _ by rw [rs]; exact table_sim38 (by omega) (by omega) hS k1.1) ?_
      intro v S w S' hq
      obtain ⟨z, rfl, rfl⟩ := aft v S w S' hq
      obtain ⟨I1, L1, J1, L1', _, _, rfl, rfl, _⟩ := id hq
      dsimp only [Option.toList_some, Option.toList_none, List.cons_append, List.nil_append]
      rw [B2_90_m1_g38, B261_75_a6]
      exact z
    rw [if_neg k1, if_pos rfl, show (2 : Int32) = nI 2 from rfl, jgo_some (d := d + 1) rfl (nowkey_c (d := d) kw tk a5 a8 a10 (k := 2) (by decide))]
    dsimp only [Option.toList_some, Option.toList_none, List.cons_append, List.nil_append]
    rw [B2_98_m1_g38]
    by_cases k2 : K now = 97 ∧ W now = kwA.getD 2 []
    · have rs : jv (e + 1) 262 0 [some (.ref 0), none, none, none, none, none] [] (shR, J, L', pR) = jv (e + 1) 262 43 [some (.ref 0), none, none, none, none, none] [.int 3] (shR, J, L', pR) := by
        rw [B262_0, jgo_some (d := e) rfl r0, if_neg k0]
        dsimp only [Option.toList_some, Option.toList_none, List.cons_append, List.nil_append]
        rw [B262_7, if_pos rfl, jgo_some (d := e) rfl r1, if_neg k1]
        dsimp only [Option.toList_some, Option.toList_none, List.cons_append, List.nil_append]
        rw [B262_21, if_pos rfl, jgo_some (d := e) rfl r2, if_pos k2]
        dsimp only [Option.toList_some, Option.toList_none, List.cons_append, List.nil_append]
        rw [B262_35, if_neg (by decide)]
      rw [if_pos k2, if_neg (by decide)]
      refine jW2_go rfl rfl (show jW2 (jv (d + 1) 14 0 [some (.ref 27), none, none, none] [] (shC, I, L, pX pa pb (some 38) pw)) (jv (e + 1) 262 0 [some (.ref 0), none, none, none, none, none] [] (shR, J, L', pR)) _ by rw [rs]; exact rule_sim38 (by omega) (by omega) hS k2.1) ?_
      intro v S w S' hq
      obtain ⟨z, rfl, rfl⟩ := aft v S w S' hq
      obtain ⟨I1, L1, J1, L1', _, _, rfl, rfl, _⟩ := id hq
      dsimp only [Option.toList_some, Option.toList_none, List.cons_append, List.nil_append]
      rw [B2_105_m1_g38, B261_75_a6]
      exact z
    -- no statement begins so
    have rs : jv (e + 1) 262 0 [some (.ref 0), none, none, none, none, none] [] (shR, J, L', pR) = some (none, (shR, flR J 2 (P now), L', pR)) := by
      rw [B262_0, jgo_some (d := e) rfl r0, if_neg k0]
      dsimp only [Option.toList_some, Option.toList_none, List.cons_append, List.nil_append]
      rw [B262_7, if_pos rfl, jgo_some (d := e) rfl r1, if_neg k1]
      dsimp only [Option.toList_some, Option.toList_none, List.cons_append, List.nil_append]
      rw [B262_21, if_pos rfl, jgo_some (d := e) rfl r2, if_neg k2]
      dsimp only [Option.toList_some, Option.toList_none, List.cons_append, List.nil_append]
      rw [B262_35, if_pos rfl, B262_43, a11, if_pos (j_in_nI (by omega) (by decide)), nI_clamp (by omega), tq.2.2.2.1, if_pos rfl, show (2 : Int32) = nI 2 from rfl, jgo_some (d := e) rfl (fails_rk a9 2 (P now))]
      dsimp only [Option.toList_some, Option.toList_none, List.cons_append, List.nil_append]
      rw [B262_64]
    have hf := eSt.fl hg ok.st (f := 2) (p := P now) (by decide) (by omega)
    rw [if_neg k2, if_pos rfl, a10, jgo_some (d := d + 1) rfl (fail_c tk a5 a8 2), jgo_some (d := e + 1) rfl rs]
    dsimp only [Option.toList_some, Option.toList_none, List.cons_append, List.nil_append]
    rw [B2_117_m1_g38, B261_75_a6]
    exact (aft none _ none _ (sQ.bad (sFr.of hg hf.1 hf.2.1) hf.b)).1
/-- a text read by both -/
theorem parse_sim38_1 {d e n : Nat} (hd : 150 ≤ d) (he : 150 ≤ e) {m : Nat → Int32} {I J : Nat → Nat → Int32} {L L' : Nat → Nat → Int64} {pu : Option Nat} (hn : n ≤ 1200) (h888 : m 888 = nI n) (hI : ∀ q, q < 1189 → I 2 q = m q) (hJ : ∀ q, q < 1189 → J 6 q = m q) (hr : rCst J) (kw : kwS L) : jW2 (jv d 2 0 [some (.ref 27), some (.ref 1), some (.ref 38), none] [] (shC, I, L, pX pa pb pu pw)) (jv e 261 0 [some (.ref 0), some (.ref 6)] [] (shR, J, L', pR)) (psQ 38 I L J L' (pX pa pb (some 38) pw)) := by
  have hg : 38 = 38 ∨ 38 = 49 := by decide
  obtain ⟨d, rfl⟩ : ∃ d', d = d' + 5 := ⟨d - 5, by omega⟩
  obtain ⟨e, rfl⟩ : ∃ e', e = e' + 5 := ⟨e - 5, by omega⟩
  rw [B2_0_m1_g38, pX_u, jgo_some (d := d + 4) rfl (B93_0_o38 _ _ _ _ _ _ _), B261_0_a6]
  dsimp only [Option.toList_some, Option.toList_none, List.cons_append, List.nil_append]
  rw [B2_9_m1_g38]
  have eI : ∀ c, c ≠ 27 → c ≠ 38 → j_up (j_up (j_up (j_up (j_up (j_up (j_up (j_up I 38 10 0) 38 11 0) 38 12 0) 38 13 0) 27 0 0) 27 7 0) 27 14 0) 27 16 0 c = I c := fun c h1 h2 => by rw [j_up_cell _ h1, j_up_cell _ h1, j_up_cell _ h1, j_up_cell _ h1, j_up_cell _ h2, j_up_cell _ h2, j_up_cell _ h2, j_up_cell _ h2]
  have e27 : ∀ q, q = 0 ∨ q = 7 ∨ q = 14 ∨ q = 16 → j_up (j_up (j_up (j_up (j_up (j_up (j_up (j_up I 38 10 0) 38 11 0) 38 12 0) 38 13 0) 27 0 0) 27 7 0) 27 14 0) 27 16 0 27 q = 0 := fun q h => by
    rw [j_up_own, j_up_own, j_up_own, j_up_own]
    rcases h with h | h | h | h <;> subst h <;> rfl
  have eg : ∀ q, q = 10 ∨ q = 11 ∨ q = 12 ∨ q = 13 → j_up (j_up (j_up (j_up (j_up (j_up (j_up (j_up I 38 10 0) 38 11 0) 38 12 0) 38 13 0) 27 0 0) 27 7 0) 27 14 0) 27 16 0 38 q = 0 := fun q h => by
    rw [j_up_cell _ (by decide), j_up_cell _ (by decide), j_up_cell _ (by decide), j_up_cell _ (by decide), j_up_own, j_up_own, j_up_own, j_up_own]
    rcases h with h | h | h | h <;> subst h <;> rfl
  have eJ : ∀ c, c ≠ 0 → j_up (j_up (j_up (j_up (j_up (j_up (j_up (j_up (j_up J 0 29 0) 0 30 (-2)) 0 36 0) 0 39 0) 0 46 0) 0 45 0) 0 49 0) 0 52 0) 0 28 0 c = J c := fun c h => by rw [j_up_cell _ h, j_up_cell _ h, j_up_cell _ h, j_up_cell _ h, j_up_cell _ h, j_up_cell _ h, j_up_cell _ h, j_up_cell _ h, j_up_cell _ h]
  have e0 : ∀ q, q = 28 ∨ q = 29 ∨ q = 36 ∨ q = 39 ∨ q = 45 ∨ q = 46 ∨ q = 49 ∨ q = 52 → j_up (j_up (j_up (j_up (j_up (j_up (j_up (j_up (j_up J 0 29 0) 0 30 (-2)) 0 36 0) 0 39 0) 0 46 0) 0 45 0) 0 49 0) 0 52 0) 0 28 0 0 q = 0 := fun q h => by
    rw [j_up_own, j_up_own, j_up_own, j_up_own, j_up_own, j_up_own, j_up_own, j_up_own, j_up_own]
    rcases h with h | h | h | h | h | h | h | h <;> subst h <;> rfl
  have en : ∀ q, q < 27 ∨ 52 < q → j_up (j_up (j_up (j_up (j_up (j_up (j_up (j_up (j_up J 0 29 0) 0 30 (-2)) 0 36 0) 0 39 0) 0 46 0) 0 45 0) 0 49 0) 0 52 0) 0 28 0 0 q = J 0 q := fun q h => by
    rw [j_up_own, if_neg (by omega), j_up_own, if_neg (by omega), j_up_own, if_neg (by omega), j_up_own, if_neg (by omega), j_up_own, if_neg (by omega), j_up_own, if_neg (by omega), j_up_own, if_neg (by omega), j_up_own, if_neg (by omega), j_up_own, if_neg (by omega)]
  revert eI e27 eg eJ e0 en
  generalize j_up (j_up (j_up (j_up (j_up (j_up (j_up (j_up I 38 10 0) 38 11 0) 38 12 0) 38 13 0) 27 0 0) 27 7 0) 27 14 0) 27 16 0 = Ia
  generalize j_up (j_up (j_up (j_up (j_up (j_up (j_up (j_up (j_up J 0 29 0) 0 30 (-2)) 0 36 0) 0 39 0) 0 46 0) 0 45 0) 0 49 0) 0 52 0) 0 28 0 = Ja
  intro eI e27 eg eJ e0 en
  refine jW2_go rfl rfl (tok_call1 (d := d) (e := e + 3) (m := m) hn h888 (fun q hq => by rw [eI 2 (by decide) (by decide)]; exact hI q hq) (fun q hq => by rw [eJ 6 (by decide)]; exact hJ q hq) (rCst_eq1 hr (fun c hc _ => eJ c hc)) (e27 0 (by decide)) (e0 29 (by decide))) ?_
  rintro v S w S' ⟨rfl, I1, L1, J1, L1', rfl, rfl, f1, f2, hh⟩
  have fr : pF 38 I I1 L L1 J J1 L' L1' := ⟨fun c h1 h2 => by rw [f1.1 c (by omega) (by omega) (by omega)]; exact eI c (by omega) (by omega), fun c h => f1.2.2 c (by omega), fun c h1 h2 => by rw [f2.1 c h1 (by omega) (by omega)]; exact eJ c h1, fun q h => by rw [f2.2.1 q (by omega) (by omega) (by omega)]; exact en q h, fun c h => f2.2.2 c (by omega)⟩
  rcases hh with ⟨rfl, p, g1, g2, g3, g4⟩ | ⟨rfl, g1, g2, T, K, P, N, hT, g3, g4, g5, g6, g7, g8, g9, g10, g11⟩
  · dsimp only [Option.toList_some, Option.toList_none, List.cons_append, List.nil_append]
    rw [B2_34_m1_g38, B261_51_a6, if_pos rfl, if_pos (by decide)]
    have hb : sB I1 J1 := ⟨1, p, by decide, by decide, g1, g2, g3, g4⟩
    have pe := parse_e38_1 (d := d + 5) (e := e + 5) (L1 := L1) (L1' := L1') (pa := pa) (pb := pb) (pw := pw) hb.f.1 hb.f.2 0
    rw [pe.1]
    exact jW2_some ⟨I1, L1, J1, L1', 0, rfl, rfl, rfl, rfl, fr, Or.inr ⟨rfl, hb⟩⟩
  · dsimp only [Option.toList_some, Option.toList_none, List.cons_append, List.nil_append]
    rw [B2_34_m1_g38, B261_51_a6, if_neg (by decide)]
    have tk := tkS_of hn hT g3 g5 g6 g7 g8 g9 g10 g11
    have kw1 : kwS L1 := by
      unfold kwS at kw ⊢
      rw [f1.2.2 35 (by decide), f1.2.2 36 (by decide), f1.2.2 37 (by decide)]
      exact kw
    have c0 : ∀ q, q = 7 ∨ q = 14 ∨ q = 16 → I1 27 q = nI 0 := fun q h => (f1.2.1 q (by omega) (by omega) (by omega)).trans (e27 q (by omega))
    have cg : ∀ q, q = 10 ∨ q = 11 ∨ q = 12 ∨ q = 13 → I1 38 q = nI 0 := fun q h => by rw [f1.1 38 (by decide) (by decide) (by decide)]; exact eg q h
    have d0 : ∀ q, q = 28 ∨ q = 36 ∨ q = 39 ∨ q = 45 ∨ q = 46 ∨ q = 49 ∨ q = 52 → J1 0 q = nI 0 := fun q h => (f2.2.1 q (by omega) (by omega) (by omega)).trans (e0 q (by omega))
    have hS : pS 38 T (upN K T 0) (upN P T n) (fun j => bts m (P j) (N j)) (fun j => nW 10 48 (bts m (P j) (N j))) 0 cw0 (fun _ => 0) (fun _ => 0) 0 0 0 (fun _ => 0) 0 0 0 0 I1 L1 J1 L1' :=
      ⟨⟨tk, kw1, ⟨by omega, c0 14 (by decide), by omega, by omega, by omega, d0 39 (by decide), d0 46 (by decide), d0 49 (by decide), fun q hq => absurd hq (Nat.not_lt_zero _), fun q hq => absurd hq (Nat.not_lt_zero _), fun q hq => absurd hq (Nat.not_lt_zero _), fun q hq => absurd hq (Nat.not_lt_zero _), fun q r hq => absurd hq (Nat.not_lt_zero _)⟩, ⟨by omega, c0 16 (by decide), d0 52 (by decide), fun q hq => absurd hq (Nat.not_lt_zero _), fun q r hq => absurd hq (Nat.not_lt_zero _)⟩, by omega, by omega, by omega, g1, g2, c0 7 (by decide), d0 28 (by decide), cg 10 (by decide), d0 36 (by decide)⟩, cg 11 (by decide), cg 12 (by decide), cg 13 (by decide), rfl, d0 45 (by decide), by omega, fun i hi => absurd hi (Nat.not_lt_zero _), fun i hi => absurd hi (Nat.not_lt_zero _), fun i hi => absurd hi (Nat.not_lt_zero _), fun _ _ _ => Nat.le_refl _, Nat.le_refl _⟩
    refine jW2_mono (parse_l38_1 (d := d + 3) (e := e + 3) (Q0 := 0) (by omega) (by omega) (T + 1) _ _ _ _ _ _ _ _ _ 0 0 0 0 I1 L1 J1 L1' (by omega) hS (Nat.le_refl _)) ?_
    rintro v S w S' ⟨I2, L2, J2, L2', x, e1, e2, e3, e4, fr2, z2⟩
    exact ⟨I2, L2, J2, L2', x, e1, e2, e3, e4, ⟨fun c h1 h2 => (fr2.1 c h1 h2).trans (fr.1 c h1 h2), fun c h => (fr2.2.2.2.2.2.1 c (by omega) (by omega)).trans (fr.2.1 c h), fun c h1 h2 => (fr2.2.2.2.2.2.2.1 c h1 (by omega)).trans (fr.2.2.1 c h1 h2), fun q h => (fr2.2.2.2.2.2.2.2.1 q (by omega)).trans (fr.2.2.2.1 q h), fun c h => (fr2.2.2.2.2.2.2.2.2 c (by omega)).trans (fr.2.2.2.2 c h)⟩, z2⟩
theorem parse_e49_1 {d e : Nat} {I1 J1 : Nat → Nat → Int32} {L1 L1' : Nat → Nat → Int64} (h1 : I1 27 0 ≠ 0) (h2 : J1 0 29 ≠ 0) (c : Int32) : jv d 2 36 [some (.ref 27), some (.ref 1), some (.ref 49), some (.int c)] [] (shC, I1, L1, pX pa pb (some 49) pw) = some (some (.int 0), (shC, I1, L1, pX pa pb (some 49) pw)) ∧ jv e 261 56 [some (.ref 0), some (.ref 6)] [] (shR, J1, L1', pR) = some (some (.int 0), (shR, J1, L1', pR)) := by
  constructor
  · have e1 : jv d 2 124 [some (.ref 27), some (.ref 1), some (.ref 49), some (.int c)] [] (shC, I1, L1, pX pa pb (some 49) pw) = some (some (.int 0), (shC, I1, L1, pX pa pb (some 49) pw)) := by
      rw [B2_124_m1_g49, if_neg h1, B2_136_m1_g49, if_pos (by decide)]
    rw [B2_36_m1_g49]
    by_cases q : c < I1 27 6
    · rw [if_pos q, if_neg h1, e1]
    · rw [if_neg q, e1]
  · rw [B261_56_a6, if_neg h2, B261_78_a6, if_neg h2, B261_90_a6, if_pos (by decide)]
theorem parse_l49_1 {d e : Nat} (hd : 140 ≤ d) (he : 140 ≤ e) {Q0 : Nat} : ∀ (r : Nat) (Q : Nat) (nm : Nat → List Nat) (kd nb : Nat → Nat) (nl nt nu : Nat) (wl : Nat → Nat) (np now nc nr c : Nat) (I : Nat → Nat → Int32) (L : Nat → Nat → Int64) (J : Nat → Nat → Int32) (L' : Nat → Nat → Int64), T - now < r → pS 49 T K P W U Q nm kd nb nl nt nu wl np now nc nr I L J L' → c ≤ now → jW2 (jv (d + 2) 2 36 [some (.ref 27), some (.ref 1), some (.ref 49), some (.int (nI c))] [] (shC, I, L, pX pa pb (some 49) pw)) (jv (e + 2) 261 56 [some (.ref 0), some (.ref 6)] [] (shR, J, L', pR)) (plX 49 I L J L' (pX pa pb (some 49) pw)) := by
  have hg : 49 = 38 ∨ 49 = 49 := by decide
  intro r
  induction r with
  | zero => intro Q nm kd nb nl nt nu wl np now nc nr c I L J L' hr; exact absurd hr (Nat.not_lt_zero _)
  | succ r ih =>
    intro Q nm kd nb nl nt nu wl np now nc nr c I L J L' hr hS hc
    have ok := hS.1
    obtain ⟨tk, kw, hN, hC, a5, a6, a7, a8, a9, a10, a11, a12, a13⟩ := id ok
    have hT := tk.1
    have tq := tk.2.2.2.1 now a5
    have i0 := is_r (e := e + 1) tk a5 a11 (k := 0) (by decide)
    rw [show nI (kR 0) = (0 : Int32) from rfl] at i0
    have hkl := kR_lt _ tq.2.2.2.2
    rw [B261_56_a6, if_pos a9, jgo_some (d := e + 1) rfl i0]
    dsimp only [Option.toList_some, Option.toList_none, List.cons_append, List.nil_append]
    rw [B261_68_a6]
    by_cases q0 : K now = 0
    · have e1 : jv (d + 2) 2 124 [some (.ref 27), some (.ref 1), some (.ref 49), some (.int (nI c))] [] (shC, I, L, pX pa pb (some 49) pw) = some (some (.int 1), (shC, I, L, pX pa pb (some 49) pw)) := by
        rw [B2_124_m1_g49, if_pos a8, B2_136_m1_g49, if_pos (by decide)]
      have e2 : jv (d + 2) 2 36 [some (.ref 27), some (.ref 1), some (.ref 49), some (.int (nI c))] [] (shC, I, L, pX pa pb (some 49) pw) = some (some (.int 1), (shC, I, L, pX pa pb (some 49) pw)) := by
        rw [B2_36_m1_g49]
        by_cases q : nI c < I 27 6
        · rw [if_pos q, if_pos a8, a10, if_pos (j_in_nI (by omega) (by decide)), nI_clamp (by omega), tq.1, if_pos (by rw [q0]; rfl), e1]
        · rw [if_neg q, e1]
      rw [e2, if_pos q0, if_neg (by decide), B261_78_a6, if_pos a9, B261_90_a6, if_pos (by decide)]
      exact jW2_some ⟨I, L, J, L', 1, rfl, rfl, rfl, rfl, sFr.refl, Or.inl ⟨rfl, hS.g, a8, a9⟩⟩
    have lt : now < T := tk.lt a5 rfl q0
    -- behind a statement
    have aft : ∀ v S w S', sQ 49 T K P W U now I L J L' (pX pa pb (some 49) pw) v S w S' → (jW2 (jv (d + 2) 2 118 [some (.ref 27), some (.ref 1), some (.ref 49), some (.int (nI c))] [] S) (jv (e + 2) 261 56 [some (.ref 0), some (.ref 6)] [] S') (plX 49 I L J L' (pX pa pb (some 49) pw)) ∧ v = none ∧ w = none) := by
      rintro v S w S' ⟨I1, L1, J1, L1', rfl, rfl, rfl, rfl, fr, z⟩
      refine ⟨?_, rfl, rfl⟩
      rw [B2_118_m1_g49, show nI c + 1 = nI (c + 1) from nI_add c 1]
      rcases z with ⟨Q2, nm2, kd2, nb2, nl2, nt2, nu2, wl2, np2, now2, nc2, nr2, lt2, hS2⟩ | hb
      · have h2 := hS2.1.2.2.2.2.1
        refine jW2_mono (ih Q2 nm2 kd2 nb2 nl2 nt2 nu2 wl2 np2 now2 nc2 nr2 (c + 1) I1 L1 J1 L1' (by omega) hS2 (by omega)) ?_
        rintro v S w S' ⟨I2, L2, J2, L2', x, e1, e2, e3, e4, fr2, z2⟩
        exact ⟨I2, L2, J2, L2', x, e1, e2, e3, e4, fr.trans fr2, z2⟩
      · have pe := parse_e49_1 (d := d + 2) (e := e + 2) (L1 := L1) (L1' := L1') (pa := pa) (pb := pb) (pw := pw) hb.f.1 hb.f.2 (nI (c + 1))
        rw [pe.1, pe.2]
        exact jW2_some ⟨I1, L1, J1, L1', 0, rfl, rfl, rfl, rfl, fr, Or.inr ⟨rfl, hb⟩⟩
    rw [if_neg q0, if_pos rfl, B2_36_m1_g49, tk.2.1, if_pos (nI_lt (by omega) (by omega)), if_pos a8, a10, if_pos (j_in_nI (by omega) (by decide)), nI_clamp (by omega), tq.1, if_neg (show ¬ nI (K now) = (0 : Int32) from fun z => q0 ((nI_eq (b := 0) (by omega) (by decide)).mp z)), show (0 : Int32) = nI 0 from rfl, jgo_some (d := d + 1) rfl (nowkey_c (d := d) kw tk a5 a8 a10 (k := 0) (by decide))]
    dsimp only [Option.toList_some, Option.toList_none, List.cons_append, List.nil_append]
    rw [B2_68_m1_g49]
    have r0 := isw_2005 (e := e - 1) tk a5 a11
    have r1 := isw_2006 (e := e - 1) tk a5 a11
    have r2 := isw_2007 (e := e - 1) tk a5 a11
    rw [show e - 1 + 1 = e by omega] at r0 r1 r2
    by_cases k0 : K now = 97 ∧ W now = kwA.getD 0 []
    · have rs : jv (e + 1) 262 0 [some (.ref 0), none, none, none, none, none] [] (shR, J, L', pR) = jv (e + 1) 262 43 [some (.ref 0), none, none, none, none, none] [.int 1] (shR, J, L', pR) := by
        rw [B262_0, jgo_some (d := e) rfl r0, if_pos k0]
        dsimp only [Option.toList_some, Option.toList_none, List.cons_append, List.nil_append]
        rw [B262_7, if_neg (by decide)]
      rw [if_pos k0, if_neg (by decide)]
      refine jW2_go rfl rfl (show jW2 (jv (d + 1) 13 0 [some (.ref 27), none, none, none] [] (shC, I, L, pX pa pb (some 49) pw)) (jv (e + 1) 262 0 [some (.ref 0), none, none, none, none, none] [] (shR, J, L', pR)) _ by rw [rs]; exact let_sim49 (by omega) (by omega) hS k0.1) ?_
      intro v S w S' hq
      obtain ⟨z, rfl, rfl⟩ := aft v S w S' hq
      obtain ⟨I1, L1, J1, L1', _, _, rfl, rfl, _⟩ := id hq
      dsimp only [Option.toList_some, Option.toList_none, List.cons_append, List.nil_append]
      rw [B2_75_m1_g49, B261_75_a6]
      exact z
    rw [if_neg k0, if_pos rfl, show (1 : Int32) = nI 1 from rfl, jgo_some (d := d + 1) rfl (nowkey_c (d := d) kw tk a5 a8 a10 (k := 1) (by decide))]
    dsimp only [Option.toList_some, Option.toList_none, List.cons_append, List.nil_append]
    rw [B2_83_m1_g49]
    by_cases k1 : K now = 97 ∧ W now = kwA.getD 1 []
    · have rs : jv (e + 1) 262 0 [some (.ref 0), none, none, none, none, none] [] (shR, J, L', pR) = jv (e + 1) 262 43 [some (.ref 0), none, none, none, none, none] [.int 2] (shR, J, L', pR) := by
        rw [B262_0, jgo_some (d := e) rfl r0, if_neg k0]
        dsimp only [Option.toList_some, Option.toList_none, List.cons_append, List.nil_append]
        rw [B262_7, if_pos rfl, jgo_some (d := e) rfl r1, if_pos k1]
        dsimp only [Option.toList_some, Option.toList_none, List.cons_append, List.nil_append]
        rw [B262_21, if_neg (by decide)]
      rw [if_pos k1, if_neg (by decide)]
      refine jW2_go rfl rfl (show jW2 (jv (d + 1) 15 0 [some (.ref 27), none, none, none] [] (shC, I, L, pX pa pb (some 49) pw)) (jv (e + 1) 262 0 [some (.ref 0), none, none, none, none, none] [] (shR, J, L', pR)) _ by rw [rs]; exact table_sim49 (by omega) (by omega) hS k1.1) ?_
      intro v S w S' hq
      obtain ⟨z, rfl, rfl⟩ := aft v S w S' hq
      obtain ⟨I1, L1, J1, L1', _, _, rfl, rfl, _⟩ := id hq
      dsimp only [Option.toList_some, Option.toList_none, List.cons_append, List.nil_append]
      rw [B2_90_m1_g49, B261_75_a6]
      exact z
    rw [if_neg k1, if_pos rfl, show (2 : Int32) = nI 2 from rfl, jgo_some (d := d + 1) rfl (nowkey_c (d := d) kw tk a5 a8 a10 (k := 2) (by decide))]
    dsimp only [Option.toList_some, Option.toList_none, List.cons_append, List.nil_append]
    rw [B2_98_m1_g49]
    by_cases k2 : K now = 97 ∧ W now = kwA.getD 2 []
    · have rs : jv (e + 1) 262 0 [some (.ref 0), none, none, none, none, none] [] (shR, J, L', pR) = jv (e + 1) 262 43 [some (.ref 0), none, none, none, none, none] [.int 3] (shR, J, L', pR) := by
        rw [B262_0, jgo_some (d := e) rfl r0, if_neg k0]
        dsimp only [Option.toList_some, Option.toList_none, List.cons_append, List.nil_append]
        rw [B262_7, if_pos rfl, jgo_some (d := e) rfl r1, if_neg k1]
        dsimp only [Option.toList_some, Option.toList_none, List.cons_append, List.nil_append]
        rw [B262_21, if_pos rfl, jgo_some (d := e) rfl r2, if_pos k2]
        dsimp only [Option.toList_some, Option.toList_none, List.cons_append, List.nil_append]
        rw [B262_35, if_neg (by decide)]
      rw [if_pos k2, if_neg (by decide)]
      refine jW2_go rfl rfl (show jW2 (jv (d + 1) 14 0 [some (.ref 27), none, none, none] [] (shC, I, L, pX pa pb (some 49) pw)) (jv (e + 1) 262 0 [some (.ref 0), none, none, none, none, none] [] (shR, J, L', pR)) _ by rw [rs]; exact rule_sim49 (by omega) (by omega) hS k2.1) ?_
      intro v S w S' hq
      obtain ⟨z, rfl, rfl⟩ := aft v S w S' hq
      obtain ⟨I1, L1, J1, L1', _, _, rfl, rfl, _⟩ := id hq
      dsimp only [Option.toList_some, Option.toList_none, List.cons_append, List.nil_append]
      rw [B2_105_m1_g49, B261_75_a6]
      exact z
    -- no statement begins so
    have rs : jv (e + 1) 262 0 [some (.ref 0), none, none, none, none, none] [] (shR, J, L', pR) = some (none, (shR, flR J 2 (P now), L', pR)) := by
      rw [B262_0, jgo_some (d := e) rfl r0, if_neg k0]
      dsimp only [Option.toList_some, Option.toList_none, List.cons_append, List.nil_append]
      rw [B262_7, if_pos rfl, jgo_some (d := e) rfl r1, if_neg k1]
      dsimp only [Option.toList_some, Option.toList_none, List.cons_append, List.nil_append]
      rw [B262_21, if_pos rfl, jgo_some (d := e) rfl r2, if_neg k2]
      dsimp only [Option.toList_some, Option.toList_none, List.cons_append, List.nil_append]
      rw [B262_35, if_pos rfl, B262_43, a11, if_pos (j_in_nI (by omega) (by decide)), nI_clamp (by omega), tq.2.2.2.1, if_pos rfl, show (2 : Int32) = nI 2 from rfl, jgo_some (d := e) rfl (fails_rk a9 2 (P now))]
      dsimp only [Option.toList_some, Option.toList_none, List.cons_append, List.nil_append]
      rw [B262_64]
    have hf := eSt.fl hg ok.st (f := 2) (p := P now) (by decide) (by omega)
    rw [if_neg k2, if_pos rfl, a10, jgo_some (d := d + 1) rfl (fail_c tk a5 a8 2), jgo_some (d := e + 1) rfl rs]
    dsimp only [Option.toList_some, Option.toList_none, List.cons_append, List.nil_append]
    rw [B2_117_m1_g49, B261_75_a6]
    exact (aft none _ none _ (sQ.bad (sFr.of hg hf.1 hf.2.1) hf.b)).1
/-- a text read by both -/
theorem parse_sim49_1 {d e n : Nat} (hd : 150 ≤ d) (he : 150 ≤ e) {m : Nat → Int32} {I J : Nat → Nat → Int32} {L L' : Nat → Nat → Int64} {pu : Option Nat} (hn : n ≤ 1200) (h888 : m 888 = nI n) (hI : ∀ q, q < 1189 → I 2 q = m q) (hJ : ∀ q, q < 1189 → J 6 q = m q) (hr : rCst J) (kw : kwS L) : jW2 (jv d 2 0 [some (.ref 27), some (.ref 1), some (.ref 49), none] [] (shC, I, L, pX pa pb pu pw)) (jv e 261 0 [some (.ref 0), some (.ref 6)] [] (shR, J, L', pR)) (psQ 49 I L J L' (pX pa pb (some 49) pw)) := by
  have hg : 49 = 38 ∨ 49 = 49 := by decide
  obtain ⟨d, rfl⟩ : ∃ d', d = d' + 5 := ⟨d - 5, by omega⟩
  obtain ⟨e, rfl⟩ : ∃ e', e = e' + 5 := ⟨e - 5, by omega⟩
  rw [B2_0_m1_g49, pX_u, jgo_some (d := d + 4) rfl (B93_0_o49 _ _ _ _ _ _ _), B261_0_a6]
  dsimp only [Option.toList_some, Option.toList_none, List.cons_append, List.nil_append]
  rw [B2_9_m1_g49]
  have eI : ∀ c, c ≠ 27 → c ≠ 49 → j_up (j_up (j_up (j_up (j_up (j_up (j_up (j_up I 49 10 0) 49 11 0) 49 12 0) 49 13 0) 27 0 0) 27 7 0) 27 14 0) 27 16 0 c = I c := fun c h1 h2 => by rw [j_up_cell _ h1, j_up_cell _ h1, j_up_cell _ h1, j_up_cell _ h1, j_up_cell _ h2, j_up_cell _ h2, j_up_cell _ h2, j_up_cell _ h2]
  have e27 : ∀ q, q = 0 ∨ q = 7 ∨ q = 14 ∨ q = 16 → j_up (j_up (j_up (j_up (j_up (j_up (j_up (j_up I 49 10 0) 49 11 0) 49 12 0) 49 13 0) 27 0 0) 27 7 0) 27 14 0) 27 16 0 27 q = 0 := fun q h => by
    rw [j_up_own, j_up_own, j_up_own, j_up_own]
    rcases h with h | h | h | h <;> subst h <;> rfl
  have eg : ∀ q, q = 10 ∨ q = 11 ∨ q = 12 ∨ q = 13 → j_up (j_up (j_up (j_up (j_up (j_up (j_up (j_up I 49 10 0) 49 11 0) 49 12 0) 49 13 0) 27 0 0) 27 7 0) 27 14 0) 27 16 0 49 q = 0 := fun q h => by
    rw [j_up_cell _ (by decide), j_up_cell _ (by decide), j_up_cell _ (by decide), j_up_cell _ (by decide), j_up_own, j_up_own, j_up_own, j_up_own]
    rcases h with h | h | h | h <;> subst h <;> rfl
  have eJ : ∀ c, c ≠ 0 → j_up (j_up (j_up (j_up (j_up (j_up (j_up (j_up (j_up J 0 29 0) 0 30 (-2)) 0 36 0) 0 39 0) 0 46 0) 0 45 0) 0 49 0) 0 52 0) 0 28 0 c = J c := fun c h => by rw [j_up_cell _ h, j_up_cell _ h, j_up_cell _ h, j_up_cell _ h, j_up_cell _ h, j_up_cell _ h, j_up_cell _ h, j_up_cell _ h, j_up_cell _ h]
  have e0 : ∀ q, q = 28 ∨ q = 29 ∨ q = 36 ∨ q = 39 ∨ q = 45 ∨ q = 46 ∨ q = 49 ∨ q = 52 → j_up (j_up (j_up (j_up (j_up (j_up (j_up (j_up (j_up J 0 29 0) 0 30 (-2)) 0 36 0) 0 39 0) 0 46 0) 0 45 0) 0 49 0) 0 52 0) 0 28 0 0 q = 0 := fun q h => by
    rw [j_up_own, j_up_own, j_up_own, j_up_own, j_up_own, j_up_own, j_up_own, j_up_own, j_up_own]
    rcases h with h | h | h | h | h | h | h | h <;> subst h <;> rfl
  have en : ∀ q, q < 27 ∨ 52 < q → j_up (j_up (j_up (j_up (j_up (j_up (j_up (j_up (j_up J 0 29 0) 0 30 (-2)) 0 36 0) 0 39 0) 0 46 0) 0 45 0) 0 49 0) 0 52 0) 0 28 0 0 q = J 0 q := fun q h => by
    rw [j_up_own, if_neg (by omega), j_up_own, if_neg (by omega), j_up_own, if_neg (by omega), j_up_own, if_neg (by omega), j_up_own, if_neg (by omega), j_up_own, if_neg (by omega), j_up_own, if_neg (by omega), j_up_own, if_neg (by omega), j_up_own, if_neg (by omega)]
  revert eI e27 eg eJ e0 en
  generalize j_up (j_up (j_up (j_up (j_up (j_up (j_up (j_up I 49 10 0) 49 11 0) 49 12 0) 49 13 0) 27 0 0) 27 7 0) 27 14 0) 27 16 0 = Ia
  generalize j_up (j_up (j_up (j_up (j_up (j_up (j_up (j_up (j_up J 0 29 0) 0 30 (-2)) 0 36 0) 0 39 0) 0 46 0) 0 45 0) 0 49 0) 0 52 0) 0 28 0 = Ja
  intro eI e27 eg eJ e0 en
  refine jW2_go rfl rfl (tok_call1 (d := d) (e := e + 3) (m := m) hn h888 (fun q hq => by rw [eI 2 (by decide) (by decide)]; exact hI q hq) (fun q hq => by rw [eJ 6 (by decide)]; exact hJ q hq) (rCst_eq1 hr (fun c hc _ => eJ c hc)) (e27 0 (by decide)) (e0 29 (by decide))) ?_
  rintro v S w S' ⟨rfl, I1, L1, J1, L1', rfl, rfl, f1, f2, hh⟩
  have fr : pF 49 I I1 L L1 J J1 L' L1' := ⟨fun c h1 h2 => by rw [f1.1 c (by omega) (by omega) (by omega)]; exact eI c (by omega) (by omega), fun c h => f1.2.2 c (by omega), fun c h1 h2 => by rw [f2.1 c h1 (by omega) (by omega)]; exact eJ c h1, fun q h => by rw [f2.2.1 q (by omega) (by omega) (by omega)]; exact en q h, fun c h => f2.2.2 c (by omega)⟩
  rcases hh with ⟨rfl, p, g1, g2, g3, g4⟩ | ⟨rfl, g1, g2, T, K, P, N, hT, g3, g4, g5, g6, g7, g8, g9, g10, g11⟩
  · dsimp only [Option.toList_some, Option.toList_none, List.cons_append, List.nil_append]
    rw [B2_34_m1_g49, B261_51_a6, if_pos rfl, if_pos (by decide)]
    have hb : sB I1 J1 := ⟨1, p, by decide, by decide, g1, g2, g3, g4⟩
    have pe := parse_e49_1 (d := d + 5) (e := e + 5) (L1 := L1) (L1' := L1') (pa := pa) (pb := pb) (pw := pw) hb.f.1 hb.f.2 0
    rw [pe.1]
    exact jW2_some ⟨I1, L1, J1, L1', 0, rfl, rfl, rfl, rfl, fr, Or.inr ⟨rfl, hb⟩⟩
  · dsimp only [Option.toList_some, Option.toList_none, List.cons_append, List.nil_append]
    rw [B2_34_m1_g49, B261_51_a6, if_neg (by decide)]
    have tk := tkS_of hn hT g3 g5 g6 g7 g8 g9 g10 g11
    have kw1 : kwS L1 := by
      unfold kwS at kw ⊢
      rw [f1.2.2 35 (by decide), f1.2.2 36 (by decide), f1.2.2 37 (by decide)]
      exact kw
    have c0 : ∀ q, q = 7 ∨ q = 14 ∨ q = 16 → I1 27 q = nI 0 := fun q h => (f1.2.1 q (by omega) (by omega) (by omega)).trans (e27 q (by omega))
    have cg : ∀ q, q = 10 ∨ q = 11 ∨ q = 12 ∨ q = 13 → I1 49 q = nI 0 := fun q h => by rw [f1.1 49 (by decide) (by decide) (by decide)]; exact eg q h
    have d0 : ∀ q, q = 28 ∨ q = 36 ∨ q = 39 ∨ q = 45 ∨ q = 46 ∨ q = 49 ∨ q = 52 → J1 0 q = nI 0 := fun q h => (f2.2.1 q (by omega) (by omega) (by omega)).trans (e0 q (by omega))
    have hS : pS 49 T (upN K T 0) (upN P T n) (fun j => bts m (P j) (N j)) (fun j => nW 10 48 (bts m (P j) (N j))) 0 cw0 (fun _ => 0) (fun _ => 0) 0 0 0 (fun _ => 0) 0 0 0 0 I1 L1 J1 L1' :=
      ⟨⟨tk, kw1, ⟨by omega, c0 14 (by decide), by omega, by omega, by omega, d0 39 (by decide), d0 46 (by decide), d0 49 (by decide), fun q hq => absurd hq (Nat.not_lt_zero _), fun q hq => absurd hq (Nat.not_lt_zero _), fun q hq => absurd hq (Nat.not_lt_zero _), fun q hq => absurd hq (Nat.not_lt_zero _), fun q r hq => absurd hq (Nat.not_lt_zero _)⟩, ⟨by omega, c0 16 (by decide), d0 52 (by decide), fun q hq => absurd hq (Nat.not_lt_zero _), fun q r hq => absurd hq (Nat.not_lt_zero _)⟩, by omega, by omega, by omega, g1, g2, c0 7 (by decide), d0 28 (by decide), cg 10 (by decide), d0 36 (by decide)⟩, cg 11 (by decide), cg 12 (by decide), cg 13 (by decide), rfl, d0 45 (by decide), by omega, fun i hi => absurd hi (Nat.not_lt_zero _), fun i hi => absurd hi (Nat.not_lt_zero _), fun i hi => absurd hi (Nat.not_lt_zero _), fun _ _ _ => Nat.le_refl _, Nat.le_refl _⟩
    refine jW2_mono (parse_l49_1 (d := d + 3) (e := e + 3) (Q0 := 0) (by omega) (by omega) (T + 1) _ _ _ _ _ _ _ _ _ 0 0 0 0 I1 L1 J1 L1' (by omega) hS (Nat.le_refl _)) ?_
    rintro v S w S' ⟨I2, L2, J2, L2', x, e1, e2, e3, e4, fr2, z2⟩
    exact ⟨I2, L2, J2, L2', x, e1, e2, e3, e4, ⟨fun c h1 h2 => (fr2.1 c h1 h2).trans (fr.1 c h1 h2), fun c h => (fr2.2.2.2.2.2.1 c (by omega) (by omega)).trans (fr.2.1 c h), fun c h1 h2 => (fr2.2.2.2.2.2.2.1 c h1 (by omega)).trans (fr.2.2.1 c h1 h2), fun q h => (fr2.2.2.2.2.2.2.2.1 q (by omega)).trans (fr.2.2.2.1 q h), fun c h => (fr2.2.2.2.2.2.2.2.2 c (by omega)).trans (fr.2.2.2.2 c h)⟩, z2⟩
theorem parse_e38_3 {d e : Nat} {I1 J1 : Nat → Nat → Int32} {L1 L1' : Nat → Nat → Int64} (h1 : I1 27 0 ≠ 0) (h2 : J1 0 29 ≠ 0) (c : Int32) : jv d 2 36 [some (.ref 27), some (.ref 3), some (.ref 38), some (.int c)] [] (shC, I1, L1, pX pa pb (some 38) pw) = some (some (.int 0), (shC, I1, L1, pX pa pb (some 38) pw)) ∧ jv e 261 56 [some (.ref 0), some (.ref 7)] [] (shR, J1, L1', pR) = some (some (.int 0), (shR, J1, L1', pR)) := by
  constructor
  · have e1 : jv d 2 124 [some (.ref 27), some (.ref 3), some (.ref 38), some (.int c)] [] (shC, I1, L1, pX pa pb (some 38) pw) = some (some (.int 0), (shC, I1, L1, pX pa pb (some 38) pw)) := by
      rw [B2_124_m3_g38, if_neg h1, B2_136_m3_g38, if_pos (by decide)]
    rw [B2_36_m3_g38]
    by_cases q : c < I1 27 6
    · rw [if_pos q, if_neg h1, e1]
    · rw [if_neg q, e1]
  · rw [B261_56_a7, if_neg h2, B261_78_a7, if_neg h2, B261_90_a7, if_pos (by decide)]
theorem parse_l38_3 {d e : Nat} (hd : 140 ≤ d) (he : 140 ≤ e) {Q0 : Nat} : ∀ (r : Nat) (Q : Nat) (nm : Nat → List Nat) (kd nb : Nat → Nat) (nl nt nu : Nat) (wl : Nat → Nat) (np now nc nr c : Nat) (I : Nat → Nat → Int32) (L : Nat → Nat → Int64) (J : Nat → Nat → Int32) (L' : Nat → Nat → Int64), T - now < r → pS 38 T K P W U Q nm kd nb nl nt nu wl np now nc nr I L J L' → c ≤ now → jW2 (jv (d + 2) 2 36 [some (.ref 27), some (.ref 3), some (.ref 38), some (.int (nI c))] [] (shC, I, L, pX pa pb (some 38) pw)) (jv (e + 2) 261 56 [some (.ref 0), some (.ref 7)] [] (shR, J, L', pR)) (plX 38 I L J L' (pX pa pb (some 38) pw)) := by
  have hg : 38 = 38 ∨ 38 = 49 := by decide
  intro r
  induction r with
  | zero => intro Q nm kd nb nl nt nu wl np now nc nr c I L J L' hr; exact absurd hr (Nat.not_lt_zero _)
  | succ r ih =>
    intro Q nm kd nb nl nt nu wl np now nc nr c I L J L' hr hS hc
    have ok := hS.1
    obtain ⟨tk, kw, hN, hC, a5, a6, a7, a8, a9, a10, a11, a12, a13⟩ := id ok
    have hT := tk.1
    have tq := tk.2.2.2.1 now a5
    have i0 := is_r (e := e + 1) tk a5 a11 (k := 0) (by decide)
    rw [show nI (kR 0) = (0 : Int32) from rfl] at i0
    have hkl := kR_lt _ tq.2.2.2.2
    rw [B261_56_a7, if_pos a9, jgo_some (d := e + 1) rfl i0]
    dsimp only [Option.toList_some, Option.toList_none, List.cons_append, List.nil_append]
    rw [B261_68_a7]
    by_cases q0 : K now = 0
    · have e1 : jv (d + 2) 2 124 [some (.ref 27), some (.ref 3), some (.ref 38), some (.int (nI c))] [] (shC, I, L, pX pa pb (some 38) pw) = some (some (.int 1), (shC, I, L, pX pa pb (some 38) pw)) := by
        rw [B2_124_m3_g38, if_pos a8, B2_136_m3_g38, if_pos (by decide)]
      have e2 : jv (d + 2) 2 36 [some (.ref 27), some (.ref 3), some (.ref 38), some (.int (nI c))] [] (shC, I, L, pX pa pb (some 38) pw) = some (some (.int 1), (shC, I, L, pX pa pb (some 38) pw)) := by
        rw [B2_36_m3_g38]
        by_cases q : nI c < I 27 6
        · rw [if_pos q, if_pos a8, a10, if_pos (j_in_nI (by omega) (by decide)), nI_clamp (by omega), tq.1, if_pos (by rw [q0]; rfl), e1]
        · rw [if_neg q, e1]
      rw [e2, if_pos q0, if_neg (by decide), B261_78_a7, if_pos a9, B261_90_a7, if_pos (by decide)]
      exact jW2_some ⟨I, L, J, L', 1, rfl, rfl, rfl, rfl, sFr.refl, Or.inl ⟨rfl, hS.g, a8, a9⟩⟩
    have lt : now < T := tk.lt a5 rfl q0
    -- behind a statement
    have aft : ∀ v S w S', sQ 38 T K P W U now I L J L' (pX pa pb (some 38) pw) v S w S' → (jW2 (jv (d + 2) 2 118 [some (.ref 27), some (.ref 3), some (.ref 38), some (.int (nI c))] [] S) (jv (e + 2) 261 56 [some (.ref 0), some (.ref 7)] [] S') (plX 38 I L J L' (pX pa pb (some 38) pw)) ∧ v = none ∧ w = none) := by
      rintro v S w S' ⟨I1, L1, J1, L1', rfl, rfl, rfl, rfl, fr, z⟩
      refine ⟨?_, rfl, rfl⟩
      rw [B2_118_m3_g38, show nI c + 1 = nI (c + 1) from nI_add c 1]
      rcases z with ⟨Q2, nm2, kd2, nb2, nl2, nt2, nu2, wl2, np2, now2, nc2, nr2, lt2, hS2⟩ | hb
      · have h2 := hS2.1.2.2.2.2.1
        refine jW2_mono (ih Q2 nm2 kd2 nb2 nl2 nt2 nu2 wl2 np2 now2 nc2 nr2 (c + 1) I1 L1 J1 L1' (by omega) hS2 (by omega)) ?_
        rintro v S w S' ⟨I2, L2, J2, L2', x, e1, e2, e3, e4, fr2, z2⟩
        exact ⟨I2, L2, J2, L2', x, e1, e2, e3, e4, fr.trans fr2, z2⟩
      · have pe := parse_e38_3 (d := d + 2) (e := e + 2) (L1 := L1) (L1' := L1') (pa := pa) (pb := pb) (pw := pw) hb.f.1 hb.f.2 (nI (c + 1))
        rw [pe.1, pe.2]
        exact jW2_some ⟨I1, L1, J1, L1', 0, rfl, rfl, rfl, rfl, fr, Or.inr ⟨rfl, hb⟩⟩
    rw [if_neg q0, if_pos rfl, B2_36_m3_g38, tk.2.1, if_pos (nI_lt (by omega) (by omega)), if_pos a8, a10, if_pos (j_in_nI (by omega) (by decide)), nI_clamp (by omega), tq.1, if_neg (show ¬ nI (K now) = (0 : Int32) from fun z => q0 ((nI_eq (b := 0) (by omega) (by decide)).mp z)), show (0 : Int32) = nI 0 from rfl, jgo_some (d := d + 1) rfl (nowkey_c (d := d) kw tk a5 a8 a10 (k := 0) (by decide))]
    dsimp only [Option.toList_some, Option.toList_none, List.cons_append, List.nil_append]
    rw [B2_68_m3_g38]
    have r0 := isw_2005 (e := e - 1) tk a5 a11
    have r1 := isw_2006 (e := e - 1) tk a5 a11
    have r2 := isw_2007 (e := e - 1) tk a5 a11
    rw [show e - 1 + 1 = e by omega] at r0 r1 r2
    by_cases k0 : K now = 97 ∧ W now = kwA.getD 0 []
    · have rs : jv (e + 1) 262 0 [some (.ref 0), none, none, none, none, none] [] (shR, J, L', pR) = jv (e + 1) 262 43 [some (.ref 0), none, none, none, none, none] [.int 1] (shR, J, L', pR) := by
        rw [B262_0, jgo_some (d := e) rfl r0, if_pos k0]
        dsimp only [Option.toList_some, Option.toList_none, List.cons_append, List.nil_append]
        rw [B262_7, if_neg (by decide)]
      rw [if_pos k0, if_neg (by decide)]
      refine jW2_go rfl rfl (show jW2 (jv (d + 1) 13 0 [some (.ref 27), none, none, none] [] (shC, I, L, pX pa pb (some 38) pw)) (jv (e + 1) 262 0 [some (.ref 0), none, none, none, none, none] [] (shR, J, L', pR)) _ by rw [rs]; exact let_sim38 (by omega) (by omega) hS k0.1) ?_
      intro v S w S' hq
      obtain ⟨z, rfl, rfl⟩ := aft v S w S' hq
      obtain ⟨I1, L1, J1, L1', _, _, rfl, rfl, _⟩ := id hq
      dsimp only [Option.toList_some, Option.toList_none, List.cons_append, List.nil_append]
      rw [B2_75_m3_g38, B261_75_a7]
      exact z
    rw [if_neg k0, if_pos rfl, show (1 : Int32) = nI 1 from rfl, jgo_some (d := d + 1) rfl (nowkey_c (d := d) kw tk a5 a8 a10 (k := 1) (by decide))]
    dsimp only [Option.toList_some, Option.toList_none, List.cons_append, List.nil_append]
    rw [B2_83_m3_g38]
    by_cases k1 : K now = 97 ∧ W now = kwA.getD 1 []
    · have rs : jv (e + 1) 262 0 [some (.ref 0), none, none, none, none, none] [] (shR, J, L', pR) = jv (e + 1) 262 43 [some (.ref 0), none, none, none, none, none] [.int 2] (shR, J, L', pR) := by
        rw [B262_0, jgo_some (d := e) rfl r0, if_neg k0]
        dsimp only [Option.toList_some, Option.toList_none, List.cons_append, List.nil_append]
        rw [B262_7, if_pos rfl, jgo_some (d := e) rfl r1, if_pos k1]
        dsimp only [Option.toList_some, Option.toList_none, List.cons_append, List.nil_append]
        rw [B262_21, if_neg (by decide)]
      rw [if_pos k1, if_neg (by decide)]
      refine jW2_go rfl rfl (show jW2 (jv (d + 1) 15 0 [some (.ref 27), none, none, none] [] (shC, I, L, pX pa pb (some 38) pw)) (jv (e + 1) 262 0 [some (.ref 0), none, none, none, none, none] [] (shR, J, L', pR)) _ by rw [rs]; exact table_sim38 (by omega) (by omega) hS k1.1) ?_
      intro v S w S' hq
      obtain ⟨z, rfl, rfl⟩ := aft v S w S' hq
      obtain ⟨I1, L1, J1, L1', _, _, rfl, rfl, _⟩ := id hq
      dsimp only [Option.toList_some, Option.toList_none, List.cons_append, List.nil_append]
      rw [B2_90_m3_g38, B261_75_a7]
      exact z
    rw [if_neg k1, if_pos rfl, show (2 : Int32) = nI 2 from rfl, jgo_some (d := d + 1) rfl (nowkey_c (d := d) kw tk a5 a8 a10 (k := 2) (by decide))]
    dsimp only [Option.toList_some, Option.toList_none, List.cons_append, List.nil_append]
    rw [B2_98_m3_g38]
    by_cases k2 : K now = 97 ∧ W now = kwA.getD 2 []
    · have rs : jv (e + 1) 262 0 [some (.ref 0), none, none, none, none, none] [] (shR, J, L', pR) = jv (e + 1) 262 43 [some (.ref 0), none, none, none, none, none] [.int 3] (shR, J, L', pR) := by
        rw [B262_0, jgo_some (d := e) rfl r0, if_neg k0]
        dsimp only [Option.toList_some, Option.toList_none, List.cons_append, List.nil_append]
        rw [B262_7, if_pos rfl, jgo_some (d := e) rfl r1, if_neg k1]
        dsimp only [Option.toList_some, Option.toList_none, List.cons_append, List.nil_append]
        rw [B262_21, if_pos rfl, jgo_some (d := e) rfl r2, if_pos k2]
        dsimp only [Option.toList_some, Option.toList_none, List.cons_append, List.nil_append]
        rw [B262_35, if_neg (by decide)]
      rw [if_pos k2, if_neg (by decide)]
      refine jW2_go rfl rfl (show jW2 (jv (d + 1) 14 0 [some (.ref 27), none, none, none] [] (shC, I, L, pX pa pb (some 38) pw)) (jv (e + 1) 262 0 [some (.ref 0), none, none, none, none, none] [] (shR, J, L', pR)) _ by rw [rs]; exact rule_sim38 (by omega) (by omega) hS k2.1) ?_
      intro v S w S' hq
      obtain ⟨z, rfl, rfl⟩ := aft v S w S' hq
      obtain ⟨I1, L1, J1, L1', _, _, rfl, rfl, _⟩ := id hq
      dsimp only [Option.toList_some, Option.toList_none, List.cons_append, List.nil_append]
      rw [B2_105_m3_g38, B261_75_a7]
      exact z
    -- no statement begins so
    have rs : jv (e + 1) 262 0 [some (.ref 0), none, none, none, none, none] [] (shR, J, L', pR) = some (none, (shR, flR J 2 (P now), L', pR)) := by
      rw [B262_0, jgo_some (d := e) rfl r0, if_neg k0]
      dsimp only [Option.toList_some, Option.toList_none, List.cons_append, List.nil_append]
      rw [B262_7, if_pos rfl, jgo_some (d := e) rfl r1, if_neg k1]
      dsimp only [Option.toList_some, Option.toList_none, List.cons_append, List.nil_append]
      rw [B262_21, if_pos rfl, jgo_some (d := e) rfl r2, if_neg k2]
      dsimp only [Option.toList_some, Option.toList_none, List.cons_append, List.nil_append]
      rw [B262_35, if_pos rfl, B262_43, a11, if_pos (j_in_nI (by omega) (by decide)), nI_clamp (by omega), tq.2.2.2.1, if_pos rfl, show (2 : Int32) = nI 2 from rfl, jgo_some (d := e) rfl (fails_rk a9 2 (P now))]
      dsimp only [Option.toList_some, Option.toList_none, List.cons_append, List.nil_append]
      rw [B262_64]
    have hf := eSt.fl hg ok.st (f := 2) (p := P now) (by decide) (by omega)
    rw [if_neg k2, if_pos rfl, a10, jgo_some (d := d + 1) rfl (fail_c tk a5 a8 2), jgo_some (d := e + 1) rfl rs]
    dsimp only [Option.toList_some, Option.toList_none, List.cons_append, List.nil_append]
    rw [B2_117_m3_g38, B261_75_a7]
    exact (aft none _ none _ (sQ.bad (sFr.of hg hf.1 hf.2.1) hf.b)).1
/-- a text read by both -/
theorem parse_sim38_3 {d e n : Nat} (hd : 150 ≤ d) (he : 150 ≤ e) {m : Nat → Int32} {I J : Nat → Nat → Int32} {L L' : Nat → Nat → Int64} {pu : Option Nat} (hn : n ≤ 1200) (h888 : m 888 = nI n) (hI : ∀ q, q < 1189 → I 4 q = m q) (hJ : ∀ q, q < 1189 → J 7 q = m q) (hr : rCst J) (kw : kwS L) : jW2 (jv d 2 0 [some (.ref 27), some (.ref 3), some (.ref 38), none] [] (shC, I, L, pX pa pb pu pw)) (jv e 261 0 [some (.ref 0), some (.ref 7)] [] (shR, J, L', pR)) (psQ 38 I L J L' (pX pa pb (some 38) pw)) := by
  have hg : 38 = 38 ∨ 38 = 49 := by decide
  obtain ⟨d, rfl⟩ : ∃ d', d = d' + 5 := ⟨d - 5, by omega⟩
  obtain ⟨e, rfl⟩ : ∃ e', e = e' + 5 := ⟨e - 5, by omega⟩
  rw [B2_0_m3_g38, pX_u, jgo_some (d := d + 4) rfl (B93_0_o38 _ _ _ _ _ _ _), B261_0_a7]
  dsimp only [Option.toList_some, Option.toList_none, List.cons_append, List.nil_append]
  rw [B2_9_m3_g38]
  have eI : ∀ c, c ≠ 27 → c ≠ 38 → j_up (j_up (j_up (j_up (j_up (j_up (j_up (j_up I 38 10 0) 38 11 0) 38 12 0) 38 13 0) 27 0 0) 27 7 0) 27 14 0) 27 16 0 c = I c := fun c h1 h2 => by rw [j_up_cell _ h1, j_up_cell _ h1, j_up_cell _ h1, j_up_cell _ h1, j_up_cell _ h2, j_up_cell _ h2, j_up_cell _ h2, j_up_cell _ h2]
  have e27 : ∀ q, q = 0 ∨ q = 7 ∨ q = 14 ∨ q = 16 → j_up (j_up (j_up (j_up (j_up (j_up (j_up (j_up I 38 10 0) 38 11 0) 38 12 0) 38 13 0) 27 0 0) 27 7 0) 27 14 0) 27 16 0 27 q = 0 := fun q h => by
    rw [j_up_own, j_up_own, j_up_own, j_up_own]
    rcases h with h | h | h | h <;> subst h <;> rfl
  have eg : ∀ q, q = 10 ∨ q = 11 ∨ q = 12 ∨ q = 13 → j_up (j_up (j_up (j_up (j_up (j_up (j_up (j_up I 38 10 0) 38 11 0) 38 12 0) 38 13 0) 27 0 0) 27 7 0) 27 14 0) 27 16 0 38 q = 0 := fun q h => by
    rw [j_up_cell _ (by decide), j_up_cell _ (by decide), j_up_cell _ (by decide), j_up_cell _ (by decide), j_up_own, j_up_own, j_up_own, j_up_own]
    rcases h with h | h | h | h <;> subst h <;> rfl
  have eJ : ∀ c, c ≠ 0 → j_up (j_up (j_up (j_up (j_up (j_up (j_up (j_up (j_up J 0 29 0) 0 30 (-2)) 0 36 0) 0 39 0) 0 46 0) 0 45 0) 0 49 0) 0 52 0) 0 28 0 c = J c := fun c h => by rw [j_up_cell _ h, j_up_cell _ h, j_up_cell _ h, j_up_cell _ h, j_up_cell _ h, j_up_cell _ h, j_up_cell _ h, j_up_cell _ h, j_up_cell _ h]
  have e0 : ∀ q, q = 28 ∨ q = 29 ∨ q = 36 ∨ q = 39 ∨ q = 45 ∨ q = 46 ∨ q = 49 ∨ q = 52 → j_up (j_up (j_up (j_up (j_up (j_up (j_up (j_up (j_up J 0 29 0) 0 30 (-2)) 0 36 0) 0 39 0) 0 46 0) 0 45 0) 0 49 0) 0 52 0) 0 28 0 0 q = 0 := fun q h => by
    rw [j_up_own, j_up_own, j_up_own, j_up_own, j_up_own, j_up_own, j_up_own, j_up_own, j_up_own]
    rcases h with h | h | h | h | h | h | h | h <;> subst h <;> rfl
  have en : ∀ q, q < 27 ∨ 52 < q → j_up (j_up (j_up (j_up (j_up (j_up (j_up (j_up (j_up J 0 29 0) 0 30 (-2)) 0 36 0) 0 39 0) 0 46 0) 0 45 0) 0 49 0) 0 52 0) 0 28 0 0 q = J 0 q := fun q h => by
    rw [j_up_own, if_neg (by omega), j_up_own, if_neg (by omega), j_up_own, if_neg (by omega), j_up_own, if_neg (by omega), j_up_own, if_neg (by omega), j_up_own, if_neg (by omega), j_up_own, if_neg (by omega), j_up_own, if_neg (by omega), j_up_own, if_neg (by omega)]
  revert eI e27 eg eJ e0 en
  generalize j_up (j_up (j_up (j_up (j_up (j_up (j_up (j_up I 38 10 0) 38 11 0) 38 12 0) 38 13 0) 27 0 0) 27 7 0) 27 14 0) 27 16 0 = Ia
  generalize j_up (j_up (j_up (j_up (j_up (j_up (j_up (j_up (j_up J 0 29 0) 0 30 (-2)) 0 36 0) 0 39 0) 0 46 0) 0 45 0) 0 49 0) 0 52 0) 0 28 0 = Ja
  intro eI e27 eg eJ e0 en
  refine jW2_go rfl rfl (tok_call3 (d := d) (e := e + 3) (m := m) hn h888 (fun q hq => by rw [eI 4 (by decide) (by decide)]; exact hI q hq) (fun q hq => by rw [eJ 7 (by decide)]; exact hJ q hq) (rCst_eq1 hr (fun c hc _ => eJ c hc)) (e27 0 (by decide)) (e0 29 (by decide))) ?_
  rintro v S w S' ⟨rfl, I1, L1, J1, L1', rfl, rfl, f1, f2, hh⟩
  have fr : pF 38 I I1 L L1 J J1 L' L1' := ⟨fun c h1 h2 => by rw [f1.1 c (by omega) (by omega) (by omega)]; exact eI c (by omega) (by omega), fun c h => f1.2.2 c (by omega), fun c h1 h2 => by rw [f2.1 c h1 (by omega) (by omega)]; exact eJ c h1, fun q h => by rw [f2.2.1 q (by omega) (by omega) (by omega)]; exact en q h, fun c h => f2.2.2 c (by omega)⟩
  rcases hh with ⟨rfl, p, g1, g2, g3, g4⟩ | ⟨rfl, g1, g2, T, K, P, N, hT, g3, g4, g5, g6, g7, g8, g9, g10, g11⟩
  · dsimp only [Option.toList_some, Option.toList_none, List.cons_append, List.nil_append]
    rw [B2_34_m3_g38, B261_51_a7, if_pos rfl, if_pos (by decide)]
    have hb : sB I1 J1 := ⟨1, p, by decide, by decide, g1, g2, g3, g4⟩
    have pe := parse_e38_3 (d := d + 5) (e := e + 5) (L1 := L1) (L1' := L1') (pa := pa) (pb := pb) (pw := pw) hb.f.1 hb.f.2 0
    rw [pe.1]
    exact jW2_some ⟨I1, L1, J1, L1', 0, rfl, rfl, rfl, rfl, fr, Or.inr ⟨rfl, hb⟩⟩
  · dsimp only [Option.toList_some, Option.toList_none, List.cons_append, List.nil_append]
    rw [B2_34_m3_g38, B261_51_a7, if_neg (by decide)]
    have tk := tkS_of hn hT g3 g5 g6 g7 g8 g9 g10 g11
    have kw1 : kwS L1 := by
      unfold kwS at kw ⊢
      rw [f1.2.2 35 (by decide), f1.2.2 36 (by decide), f1.2.2 37 (by decide)]
      exact kw
    have c0 : ∀ q, q = 7 ∨ q = 14 ∨ q = 16 → I1 27 q = nI 0 := fun q h => (f1.2.1 q (by omega) (by omega) (by omega)).trans (e27 q (by omega))
    have cg : ∀ q, q = 10 ∨ q = 11 ∨ q = 12 ∨ q = 13 → I1 38 q = nI 0 := fun q h => by rw [f1.1 38 (by decide) (by decide) (by decide)]; exact eg q h
    have d0 : ∀ q, q = 28 ∨ q = 36 ∨ q = 39 ∨ q = 45 ∨ q = 46 ∨ q = 49 ∨ q = 52 → J1 0 q = nI 0 := fun q h => (f2.2.1 q (by omega) (by omega) (by omega)).trans (e0 q (by omega))
    have hS : pS 38 T (upN K T 0) (upN P T n) (fun j => bts m (P j) (N j)) (fun j => nW 10 48 (bts m (P j) (N j))) 0 cw0 (fun _ => 0) (fun _ => 0) 0 0 0 (fun _ => 0) 0 0 0 0 I1 L1 J1 L1' :=
      ⟨⟨tk, kw1, ⟨by omega, c0 14 (by decide), by omega, by omega, by omega, d0 39 (by decide), d0 46 (by decide), d0 49 (by decide), fun q hq => absurd hq (Nat.not_lt_zero _), fun q hq => absurd hq (Nat.not_lt_zero _), fun q hq => absurd hq (Nat.not_lt_zero _), fun q hq => absurd hq (Nat.not_lt_zero _), fun q r hq => absurd hq (Nat.not_lt_zero _)⟩, ⟨by omega, c0 16 (by decide), d0 52 (by decide), fun q hq => absurd hq (Nat.not_lt_zero _), fun q r hq => absurd hq (Nat.not_lt_zero _)⟩, by omega, by omega, by omega, g1, g2, c0 7 (by decide), d0 28 (by decide), cg 10 (by decide), d0 36 (by decide)⟩, cg 11 (by decide), cg 12 (by decide), cg 13 (by decide), rfl, d0 45 (by decide), by omega, fun i hi => absurd hi (Nat.not_lt_zero _), fun i hi => absurd hi (Nat.not_lt_zero _), fun i hi => absurd hi (Nat.not_lt_zero _), fun _ _ _ => Nat.le_refl _, Nat.le_refl _⟩
    refine jW2_mono (parse_l38_3 (d := d + 3) (e := e + 3) (Q0 := 0) (by omega) (by omega) (T + 1) _ _ _ _ _ _ _ _ _ 0 0 0 0 I1 L1 J1 L1' (by omega) hS (Nat.le_refl _)) ?_
    rintro v S w S' ⟨I2, L2, J2, L2', x, e1, e2, e3, e4, fr2, z2⟩
    exact ⟨I2, L2, J2, L2', x, e1, e2, e3, e4, ⟨fun c h1 h2 => (fr2.1 c h1 h2).trans (fr.1 c h1 h2), fun c h => (fr2.2.2.2.2.2.1 c (by omega) (by omega)).trans (fr.2.1 c h), fun c h1 h2 => (fr2.2.2.2.2.2.2.1 c h1 (by omega)).trans (fr.2.2.1 c h1 h2), fun q h => (fr2.2.2.2.2.2.2.2.1 q (by omega)).trans (fr.2.2.2.1 q h), fun c h => (fr2.2.2.2.2.2.2.2.2 c (by omega)).trans (fr.2.2.2.2 c h)⟩, z2⟩
theorem parse_e49_3 {d e : Nat} {I1 J1 : Nat → Nat → Int32} {L1 L1' : Nat → Nat → Int64} (h1 : I1 27 0 ≠ 0) (h2 : J1 0 29 ≠ 0) (c : Int32) : jv d 2 36 [some (.ref 27), some (.ref 3), some (.ref 49), some (.int c)] [] (shC, I1, L1, pX pa pb (some 49) pw) = some (some (.int 0), (shC, I1, L1, pX pa pb (some 49) pw)) ∧ jv e 261 56 [some (.ref 0), some (.ref 7)] [] (shR, J1, L1', pR) = some (some (.int 0), (shR, J1, L1', pR)) := by
  constructor
  · have e1 : jv d 2 124 [some (.ref 27), some (.ref 3), some (.ref 49), some (.int c)] [] (shC, I1, L1, pX pa pb (some 49) pw) = some (some (.int 0), (shC, I1, L1, pX pa pb (some 49) pw)) := by
      rw [B2_124_m3_g49, if_neg h1, B2_136_m3_g49, if_pos (by decide)]
    rw [B2_36_m3_g49]
    by_cases q : c < I1 27 6
    · rw [if_pos q, if_neg h1, e1]
    · rw [if_neg q, e1]
  · rw [B261_56_a7, if_neg h2, B261_78_a7, if_neg h2, B261_90_a7, if_pos (by decide)]
theorem parse_l49_3 {d e : Nat} (hd : 140 ≤ d) (he : 140 ≤ e) {Q0 : Nat} : ∀ (r : Nat) (Q : Nat) (nm : Nat → List Nat) (kd nb : Nat → Nat) (nl nt nu : Nat) (wl : Nat → Nat) (np now nc nr c : Nat) (I : Nat → Nat → Int32) (L : Nat → Nat → Int64) (J : Nat → Nat → Int32) (L' : Nat → Nat → Int64), T - now < r → pS 49 T K P W U Q nm kd nb nl nt nu wl np now nc nr I L J L' → c ≤ now → jW2 (jv (d + 2) 2 36 [some (.ref 27), some (.ref 3), some (.ref 49), some (.int (nI c))] [] (shC, I, L, pX pa pb (some 49) pw)) (jv (e + 2) 261 56 [some (.ref 0), some (.ref 7)] [] (shR, J, L', pR)) (plX 49 I L J L' (pX pa pb (some 49) pw)) := by
  have hg : 49 = 38 ∨ 49 = 49 := by decide
  intro r
  induction r with
  | zero => intro Q nm kd nb nl nt nu wl np now nc nr c I L J L' hr; exact absurd hr (Nat.not_lt_zero _)
  | succ r ih =>
    intro Q nm kd nb nl nt nu wl np now nc nr c I L J L' hr hS hc
    have ok := hS.1
    obtain ⟨tk, kw, hN, hC, a5, a6, a7, a8, a9, a10, a11, a12, a13⟩ := id ok
    have hT := tk.1
    have tq := tk.2.2.2.1 now a5
    have i0 := is_r (e := e + 1) tk a5 a11 (k := 0) (by decide)
    rw [show nI (kR 0) = (0 : Int32) from rfl] at i0
    have hkl := kR_lt _ tq.2.2.2.2
    rw [B261_56_a7, if_pos a9, jgo_some (d := e + 1) rfl i0]
    dsimp only [Option.toList_some, Option.toList_none, List.cons_append, List.nil_append]
    rw [B261_68_a7]
    by_cases q0 : K now = 0
    · have e1 : jv (d + 2) 2 124 [some (.ref 27), some (.ref 3), some (.ref 49), some (.int (nI c))] [] (shC, I, L, pX pa pb (some 49) pw) = some (some (.int 1), (shC, I, L, pX pa pb (some 49) pw)) := by
        rw [B2_124_m3_g49, if_pos a8, B2_136_m3_g49, if_pos (by decide)]
      have e2 : jv (d + 2) 2 36 [some (.ref 27), some (.ref 3), some (.ref 49), some (.int (nI c))] [] (shC, I, L, pX pa pb (some 49) pw) = some (some (.int 1), (shC, I, L, pX pa pb (some 49) pw)) := by
        rw [B2_36_m3_g49]
        by_cases q : nI c < I 27 6
        · rw [if_pos q, if_pos a8, a10, if_pos (j_in_nI (by omega) (by decide)), nI_clamp (by omega), tq.1, if_pos (by rw [q0]; rfl), e1]
        · rw [if_neg q, e1]
      rw [e2, if_pos q0, if_neg (by decide), B261_78_a7, if_pos a9, B261_90_a7, if_pos (by decide)]
      exact jW2_some ⟨I, L, J, L', 1, rfl, rfl, rfl, rfl, sFr.refl, Or.inl ⟨rfl, hS.g, a8, a9⟩⟩
    have lt : now < T := tk.lt a5 rfl q0
    -- behind a statement
    have aft : ∀ v S w S', sQ 49 T K P W U now I L J L' (pX pa pb (some 49) pw) v S w S' → (jW2 (jv (d + 2) 2 118 [some (.ref 27), some (.ref 3), some (.ref 49), some (.int (nI c))] [] S) (jv (e + 2) 261 56 [some (.ref 0), some (.ref 7)] [] S') (plX 49 I L J L' (pX pa pb (some 49) pw)) ∧ v = none ∧ w = none) := by
      rintro v S w S' ⟨I1, L1, J1, L1', rfl, rfl, rfl, rfl, fr, z⟩
      refine ⟨?_, rfl, rfl⟩
      rw [B2_118_m3_g49, show nI c + 1 = nI (c + 1) from nI_add c 1]
      rcases z with ⟨Q2, nm2, kd2, nb2, nl2, nt2, nu2, wl2, np2, now2, nc2, nr2, lt2, hS2⟩ | hb
      · have h2 := hS2.1.2.2.2.2.1
        refine jW2_mono (ih Q2 nm2 kd2 nb2 nl2 nt2 nu2 wl2 np2 now2 nc2 nr2 (c + 1) I1 L1 J1 L1' (by omega) hS2 (by omega)) ?_
        rintro v S w S' ⟨I2, L2, J2, L2', x, e1, e2, e3, e4, fr2, z2⟩
        exact ⟨I2, L2, J2, L2', x, e1, e2, e3, e4, fr.trans fr2, z2⟩
      · have pe := parse_e49_3 (d := d + 2) (e := e + 2) (L1 := L1) (L1' := L1') (pa := pa) (pb := pb) (pw := pw) hb.f.1 hb.f.2 (nI (c + 1))
        rw [pe.1, pe.2]
        exact jW2_some ⟨I1, L1, J1, L1', 0, rfl, rfl, rfl, rfl, fr, Or.inr ⟨rfl, hb⟩⟩
    rw [if_neg q0, if_pos rfl, B2_36_m3_g49, tk.2.1, if_pos (nI_lt (by omega) (by omega)), if_pos a8, a10, if_pos (j_in_nI (by omega) (by decide)), nI_clamp (by omega), tq.1, if_neg (show ¬ nI (K now) = (0 : Int32) from fun z => q0 ((nI_eq (b := 0) (by omega) (by decide)).mp z)), show (0 : Int32) = nI 0 from rfl, jgo_some (d := d + 1) rfl (nowkey_c (d := d) kw tk a5 a8 a10 (k := 0) (by decide))]
    dsimp only [Option.toList_some, Option.toList_none, List.cons_append, List.nil_append]
    rw [B2_68_m3_g49]
    have r0 := isw_2005 (e := e - 1) tk a5 a11
    have r1 := isw_2006 (e := e - 1) tk a5 a11
    have r2 := isw_2007 (e := e - 1) tk a5 a11
    rw [show e - 1 + 1 = e by omega] at r0 r1 r2
    by_cases k0 : K now = 97 ∧ W now = kwA.getD 0 []
    · have rs : jv (e + 1) 262 0 [some (.ref 0), none, none, none, none, none] [] (shR, J, L', pR) = jv (e + 1) 262 43 [some (.ref 0), none, none, none, none, none] [.int 1] (shR, J, L', pR) := by
        rw [B262_0, jgo_some (d := e) rfl r0, if_pos k0]
        dsimp only [Option.toList_some, Option.toList_none, List.cons_append, List.nil_append]
        rw [B262_7, if_neg (by decide)]
      rw [if_pos k0, if_neg (by decide)]
      refine jW2_go rfl rfl (show jW2 (jv (d + 1) 13 0 [some (.ref 27), none, none, none] [] (shC, I, L, pX pa pb (some 49) pw)) (jv (e + 1) 262 0 [some (.ref 0), none, none, none, none, none] [] (shR, J, L', pR)) _ by rw [rs]; exact let_sim49 (by omega) (by omega) hS k0.1) ?_
      intro v S w S' hq
      obtain ⟨z, rfl, rfl⟩ := aft v S w S' hq
      obtain ⟨I1, L1, J1, L1', _, _, rfl, rfl, _⟩ := id hq
      dsimp only [Option.toList_some, Option.toList_none, List.cons_append, List.nil_append]
      rw [B2_75_m3_g49, B261_75_a7]
      exact z
    rw [if_neg k0, if_pos rfl, show (1 : Int32) = nI 1 from rfl, jgo_some (d := d + 1) rfl (nowkey_c (d := d) kw tk a5 a8 a10 (k := 1) (by decide))]
    dsimp only [Option.toList_some, Option.toList_none, List.cons_append, List.nil_append]
    rw [B2_83_m3_g49]
    by_cases k1 : K now = 97 ∧ W now = kwA.getD 1 []
    · have rs : jv (e + 1) 262 0 [some (.ref 0), none, none, none, none, none] [] (shR, J, L', pR) = jv (e + 1) 262 43 [some (.ref 0), none, none, none, none, none] [.int 2] (shR, J, L', pR) := by
        rw [B262_0, jgo_some (d := e) rfl r0, if_neg k0]
        dsimp only [Option.toList_some, Option.toList_none, List.cons_append, List.nil_append]
        rw [B262_7, if_pos rfl, jgo_some (d := e) rfl r1, if_pos k1]
        dsimp only [Option.toList_some, Option.toList_none, List.cons_append, List.nil_append]
        rw [B262_21, if_neg (by decide)]
      rw [if_pos k1, if_neg (by decide)]
      refine jW2_go rfl rfl (show jW2 (jv (d + 1) 15 0 [some (.ref 27), none, none, none] [] (shC, I, L, pX pa pb (some 49) pw)) (jv (e + 1) 262 0 [some (.ref 0), none, none, none, none, none] [] (shR, J, L', pR)) _ by rw [rs]; exact table_sim49 (by omega) (by omega) hS k1.1) ?_
      intro v S w S' hq
      obtain ⟨z, rfl, rfl⟩ := aft v S w S' hq
      obtain ⟨I1, L1, J1, L1', _, _, rfl, rfl, _⟩ := id hq
      dsimp only [Option.toList_some, Option.toList_none, List.cons_append, List.nil_append]
      rw [B2_90_m3_g49, B261_75_a7]
      exact z
    rw [if_neg k1, if_pos rfl, show (2 : Int32) = nI 2 from rfl, jgo_some (d := d + 1) rfl (nowkey_c (d := d) kw tk a5 a8 a10 (k := 2) (by decide))]
    dsimp only [Option.toList_some, Option.toList_none, List.cons_append, List.nil_append]
    rw [B2_98_m3_g49]
    by_cases k2 : K now = 97 ∧ W now = kwA.getD 2 []
    · have rs : jv (e + 1) 262 0 [some (.ref 0), none, none, none, none, none] [] (shR, J, L', pR) = jv (e + 1) 262 43 [some (.ref 0), none, none, none, none, none] [.int 3] (shR, J, L', pR) := by
        rw [B262_0, jgo_some (d := e) rfl r0, if_neg k0]
        dsimp only [Option.toList_some, Option.toList_none, List.cons_append, List.nil_append]
        rw [B262_7, if_pos rfl, jgo_some (d := e) rfl r1, if_neg k1]
        dsimp only [Option.toList_some, Option.toList_none, List.cons_append, List.nil_append]
        rw [B262_21, if_pos rfl, jgo_some (d := e) rfl r2, if_pos k2]
        dsimp only [Option.toList_some, Option.toList_none, List.cons_append, List.nil_append]
        rw [B262_35, if_neg (by decide)]
      rw [if_pos k2, if_neg (by decide)]
      refine jW2_go rfl rfl (show jW2 (jv (d + 1) 14 0 [some (.ref 27), none, none, none] [] (shC, I, L, pX pa pb (some 49) pw)) (jv (e + 1) 262 0 [some (.ref 0), none, none, none, none, none] [] (shR, J, L', pR)) _ by rw [rs]; exact rule_sim49 (by omega) (by omega) hS k2.1) ?_
      intro v S w S' hq
      obtain ⟨z, rfl, rfl⟩ := aft v S w S' hq
      obtain ⟨I1, L1, J1, L1', _, _, rfl, rfl, _⟩ := id hq
      dsimp only [Option.toList_some, Option.toList_none, List.cons_append, List.nil_append]
      rw [B2_105_m3_g49, B261_75_a7]
      exact z
    -- no statement begins so
    have rs : jv (e + 1) 262 0 [some (.ref 0), none, none, none, none, none] [] (shR, J, L', pR) = some (none, (shR, flR J 2 (P now), L', pR)) := by
      rw [B262_0, jgo_some (d := e) rfl r0, if_neg k0]
      dsimp only [Option.toList_some, Option.toList_none, List.cons_append, List.nil_append]
      rw [B262_7, if_pos rfl, jgo_some (d := e) rfl r1, if_neg k1]
      dsimp only [Option.toList_some, Option.toList_none, List.cons_append, List.nil_append]
      rw [B262_21, if_pos rfl, jgo_some (d := e) rfl r2, if_neg k2]
      dsimp only [Option.toList_some, Option.toList_none, List.cons_append, List.nil_append]
      rw [B262_35, if_pos rfl, B262_43, a11, if_pos (j_in_nI (by omega) (by decide)), nI_clamp (by omega), tq.2.2.2.1, if_pos rfl, show (2 : Int32) = nI 2 from rfl, jgo_some (d := e) rfl (fails_rk a9 2 (P now))]
      dsimp only [Option.toList_some, Option.toList_none, List.cons_append, List.nil_append]
      rw [B262_64]
    have hf := eSt.fl hg ok.st (f := 2) (p := P now) (by decide) (by omega)
    rw [if_neg k2, if_pos rfl, a10, jgo_some (d := d + 1) rfl (fail_c tk a5 a8 2), jgo_some (d := e + 1) rfl rs]
    dsimp only [Option.toList_some, Option.toList_none, List.cons_append, List.nil_append]
    rw [B2_117_m3_g49, B261_75_a7]
    exact (aft none _ none _ (sQ.bad (sFr.of hg hf.1 hf.2.1) hf.b)).1
/-- a text read by both -/
theorem parse_sim49_3 {d e n : Nat} (hd : 150 ≤ d) (he : 150 ≤ e) {m : Nat → Int32} {I J : Nat → Nat → Int32} {L L' : Nat → Nat → Int64} {pu : Option Nat} (hn : n ≤ 1200) (h888 : m 888 = nI n) (hI : ∀ q, q < 1189 → I 4 q = m q) (hJ : ∀ q, q < 1189 → J 7 q = m q) (hr : rCst J) (kw : kwS L) : jW2 (jv d 2 0 [some (.ref 27), some (.ref 3), some (.ref 49), none] [] (shC, I, L, pX pa pb pu pw)) (jv e 261 0 [some (.ref 0), some (.ref 7)] [] (shR, J, L', pR)) (psQ 49 I L J L' (pX pa pb (some 49) pw)) := by
  have hg : 49 = 38 ∨ 49 = 49 := by decide
  obtain ⟨d, rfl⟩ : ∃ d', d = d' + 5 := ⟨d - 5, by omega⟩
  obtain ⟨e, rfl⟩ : ∃ e', e = e' + 5 := ⟨e - 5, by omega⟩
  rw [B2_0_m3_g49, pX_u, jgo_some (d := d + 4) rfl (B93_0_o49 _ _ _ _ _ _ _), B261_0_a7]
  dsimp only [Option.toList_some, Option.toList_none, List.cons_append, List.nil_append]
  rw [B2_9_m3_g49]
  have eI : ∀ c, c ≠ 27 → c ≠ 49 → j_up (j_up (j_up (j_up (j_up (j_up (j_up (j_up I 49 10 0) 49 11 0) 49 12 0) 49 13 0) 27 0 0) 27 7 0) 27 14 0) 27 16 0 c = I c := fun c h1 h2 => by rw [j_up_cell _ h1, j_up_cell _ h1, j_up_cell _ h1, j_up_cell _ h1, j_up_cell _ h2, j_up_cell _ h2, j_up_cell _ h2, j_up_cell _ h2]
  have e27 : ∀ q, q = 0 ∨ q = 7 ∨ q = 14 ∨ q = 16 → j_up (j_up (j_up (j_up (j_up (j_up (j_up (j_up I 49 10 0) 49 11 0) 49 12 0) 49 13 0) 27 0 0) 27 7 0) 27 14 0) 27 16 0 27 q = 0 := fun q h => by
    rw [j_up_own, j_up_own, j_up_own, j_up_own]
    rcases h with h | h | h | h <;> subst h <;> rfl
  have eg : ∀ q, q = 10 ∨ q = 11 ∨ q = 12 ∨ q = 13 → j_up (j_up (j_up (j_up (j_up (j_up (j_up (j_up I 49 10 0) 49 11 0) 49 12 0) 49 13 0) 27 0 0) 27 7 0) 27 14 0) 27 16 0 49 q = 0 := fun q h => by
    rw [j_up_cell _ (by decide), j_up_cell _ (by decide), j_up_cell _ (by decide), j_up_cell _ (by decide), j_up_own, j_up_own, j_up_own, j_up_own]
    rcases h with h | h | h | h <;> subst h <;> rfl
  have eJ : ∀ c, c ≠ 0 → j_up (j_up (j_up (j_up (j_up (j_up (j_up (j_up (j_up J 0 29 0) 0 30 (-2)) 0 36 0) 0 39 0) 0 46 0) 0 45 0) 0 49 0) 0 52 0) 0 28 0 c = J c := fun c h => by rw [j_up_cell _ h, j_up_cell _ h, j_up_cell _ h, j_up_cell _ h, j_up_cell _ h, j_up_cell _ h, j_up_cell _ h, j_up_cell _ h, j_up_cell _ h]
  have e0 : ∀ q, q = 28 ∨ q = 29 ∨ q = 36 ∨ q = 39 ∨ q = 45 ∨ q = 46 ∨ q = 49 ∨ q = 52 → j_up (j_up (j_up (j_up (j_up (j_up (j_up (j_up (j_up J 0 29 0) 0 30 (-2)) 0 36 0) 0 39 0) 0 46 0) 0 45 0) 0 49 0) 0 52 0) 0 28 0 0 q = 0 := fun q h => by
    rw [j_up_own, j_up_own, j_up_own, j_up_own, j_up_own, j_up_own, j_up_own, j_up_own, j_up_own]
    rcases h with h | h | h | h | h | h | h | h <;> subst h <;> rfl
  have en : ∀ q, q < 27 ∨ 52 < q → j_up (j_up (j_up (j_up (j_up (j_up (j_up (j_up (j_up J 0 29 0) 0 30 (-2)) 0 36 0) 0 39 0) 0 46 0) 0 45 0) 0 49 0) 0 52 0) 0 28 0 0 q = J 0 q := fun q h => by
    rw [j_up_own, if_neg (by omega), j_up_own, if_neg (by omega), j_up_own, if_neg (by omega), j_up_own, if_neg (by omega), j_up_own, if_neg (by omega), j_up_own, if_neg (by omega), j_up_own, if_neg (by omega), j_up_own, if_neg (by omega), j_up_own, if_neg (by omega)]
  revert eI e27 eg eJ e0 en
  generalize j_up (j_up (j_up (j_up (j_up (j_up (j_up (j_up I 49 10 0) 49 11 0) 49 12 0) 49 13 0) 27 0 0) 27 7 0) 27 14 0) 27 16 0 = Ia
  generalize j_up (j_up (j_up (j_up (j_up (j_up (j_up (j_up (j_up J 0 29 0) 0 30 (-2)) 0 36 0) 0 39 0) 0 46 0) 0 45 0) 0 49 0) 0 52 0) 0 28 0 = Ja
  intro eI e27 eg eJ e0 en
  refine jW2_go rfl rfl (tok_call3 (d := d) (e := e + 3) (m := m) hn h888 (fun q hq => by rw [eI 4 (by decide) (by decide)]; exact hI q hq) (fun q hq => by rw [eJ 7 (by decide)]; exact hJ q hq) (rCst_eq1 hr (fun c hc _ => eJ c hc)) (e27 0 (by decide)) (e0 29 (by decide))) ?_
  rintro v S w S' ⟨rfl, I1, L1, J1, L1', rfl, rfl, f1, f2, hh⟩
  have fr : pF 49 I I1 L L1 J J1 L' L1' := ⟨fun c h1 h2 => by rw [f1.1 c (by omega) (by omega) (by omega)]; exact eI c (by omega) (by omega), fun c h => f1.2.2 c (by omega), fun c h1 h2 => by rw [f2.1 c h1 (by omega) (by omega)]; exact eJ c h1, fun q h => by rw [f2.2.1 q (by omega) (by omega) (by omega)]; exact en q h, fun c h => f2.2.2 c (by omega)⟩
  rcases hh with ⟨rfl, p, g1, g2, g3, g4⟩ | ⟨rfl, g1, g2, T, K, P, N, hT, g3, g4, g5, g6, g7, g8, g9, g10, g11⟩
  · dsimp only [Option.toList_some, Option.toList_none, List.cons_append, List.nil_append]
    rw [B2_34_m3_g49, B261_51_a7, if_pos rfl, if_pos (by decide)]
    have hb : sB I1 J1 := ⟨1, p, by decide, by decide, g1, g2, g3, g4⟩
    have pe := parse_e49_3 (d := d + 5) (e := e + 5) (L1 := L1) (L1' := L1') (pa := pa) (pb := pb) (pw := pw) hb.f.1 hb.f.2 0
    rw [pe.1]
    exact jW2_some ⟨I1, L1, J1, L1', 0, rfl, rfl, rfl, rfl, fr, Or.inr ⟨rfl, hb⟩⟩
  · dsimp only [Option.toList_some, Option.toList_none, List.cons_append, List.nil_append]
    rw [B2_34_m3_g49, B261_51_a7, if_neg (by decide)]
    have tk := tkS_of hn hT g3 g5 g6 g7 g8 g9 g10 g11
    have kw1 : kwS L1 := by
      unfold kwS at kw ⊢
      rw [f1.2.2 35 (by decide), f1.2.2 36 (by decide), f1.2.2 37 (by decide)]
      exact kw
    have c0 : ∀ q, q = 7 ∨ q = 14 ∨ q = 16 → I1 27 q = nI 0 := fun q h => (f1.2.1 q (by omega) (by omega) (by omega)).trans (e27 q (by omega))
    have cg : ∀ q, q = 10 ∨ q = 11 ∨ q = 12 ∨ q = 13 → I1 49 q = nI 0 := fun q h => by rw [f1.1 49 (by decide) (by decide) (by decide)]; exact eg q h
    have d0 : ∀ q, q = 28 ∨ q = 36 ∨ q = 39 ∨ q = 45 ∨ q = 46 ∨ q = 49 ∨ q = 52 → J1 0 q = nI 0 := fun q h => (f2.2.1 q (by omega) (by omega) (by omega)).trans (e0 q (by omega))
    have hS : pS 49 T (upN K T 0) (upN P T n) (fun j => bts m (P j) (N j)) (fun j => nW 10 48 (bts m (P j) (N j))) 0 cw0 (fun _ => 0) (fun _ => 0) 0 0 0 (fun _ => 0) 0 0 0 0 I1 L1 J1 L1' :=
      ⟨⟨tk, kw1, ⟨by omega, c0 14 (by decide), by omega, by omega, by omega, d0 39 (by decide), d0 46 (by decide), d0 49 (by decide), fun q hq => absurd hq (Nat.not_lt_zero _), fun q hq => absurd hq (Nat.not_lt_zero _), fun q hq => absurd hq (Nat.not_lt_zero _), fun q hq => absurd hq (Nat.not_lt_zero _), fun q r hq => absurd hq (Nat.not_lt_zero _)⟩, ⟨by omega, c0 16 (by decide), d0 52 (by decide), fun q hq => absurd hq (Nat.not_lt_zero _), fun q r hq => absurd hq (Nat.not_lt_zero _)⟩, by omega, by omega, by omega, g1, g2, c0 7 (by decide), d0 28 (by decide), cg 10 (by decide), d0 36 (by decide)⟩, cg 11 (by decide), cg 12 (by decide), cg 13 (by decide), rfl, d0 45 (by decide), by omega, fun i hi => absurd hi (Nat.not_lt_zero _), fun i hi => absurd hi (Nat.not_lt_zero _), fun i hi => absurd hi (Nat.not_lt_zero _), fun _ _ _ => Nat.le_refl _, Nat.le_refl _⟩
    refine jW2_mono (parse_l49_3 (d := d + 3) (e := e + 3) (Q0 := 0) (by omega) (by omega) (T + 1) _ _ _ _ _ _ _ _ _ 0 0 0 0 I1 L1 J1 L1' (by omega) hS (Nat.le_refl _)) ?_
    rintro v S w S' ⟨I2, L2, J2, L2', x, e1, e2, e3, e4, fr2, z2⟩
    exact ⟨I2, L2, J2, L2', x, e1, e2, e3, e4, ⟨fun c h1 h2 => (fr2.1 c h1 h2).trans (fr.1 c h1 h2), fun c h => (fr2.2.2.2.2.2.1 c (by omega) (by omega)).trans (fr.2.1 c h), fun c h1 h2 => (fr2.2.2.2.2.2.2.1 c h1 (by omega)).trans (fr.2.2.1 c h1 h2), fun q h => (fr2.2.2.2.2.2.2.2.1 q (by omega)).trans (fr.2.2.2.1 q h), fun c h => (fr2.2.2.2.2.2.2.2.2 c (by omega)).trans (fr.2.2.2.2 c h)⟩, z2⟩
end PARZ
