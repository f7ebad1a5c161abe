/-! RULES: arm() beside the rules; a text read again -/
section SECC
variable {d e : Nat} {I J I0 J0 : Nat → Nat → Int32} {L L' Lr : Nat → Nat → Int64} {pa pb pu pw : Option Nat} {m : Nat → Int32} {k : Bool} {N o r nt np nl nu nc nr : Nat} {wl : Nat → Nat} {ans : Int32} {b c : Int}
/-- rules over levers and balances -/
theorem rul_lev {g : Nat} {I1 J1 : Nat → Nat → Int32} {L1 L1' : Nat → Nat → Int64} (hg : g + 10 < 60) (hq : mQ m I1 J1) (hD : k = true → seaD m o r ans b c) (h1 : cH m k N o r ans b c I1 J L1) (h2 : rH m k o r ans b c I J1 L1') (hP : prB g nl nt nu np nc nr wl I J L') (hL : letK g nl wl m k o r ans b c I J L L') (f : leF I I1 L L1) (h : frB J J1 L' L1') : rulK g m N I1 J1 L1 L1' := by
  obtain ⟨f1, f2, f3, f4⟩ := f
  obtain ⟨g1, g2, g3, g4⟩ := h
  have fI : ∀ x, x < 69 ∨ 82 < x → I1 x = I x := fun x hx => f1 x (by omega) (by omega) (by omega)
  have J21 : (fun c i => J1 (21 + c) i) = (fun c i => J (21 + c) i) := by funext c i; rw [g1 (21 + c) (by omega)]
  have ln2 : lnR J1 = lnR J := by funext i; unfold lnR; rw [g1 27 (by decide)]
  have l25 : L1' 25 = L' 25 := g3 25 (by decide)
  refine ⟨k, o, r, ans, b, c, nl, nt, nu, np, nc, nr, wl, hD, h1.toJ hq, h2.toI hq, hP.congr (fun x _ hx => fI x (by omega)) (fun q hq => g2 q (by omega)) (fun x h1 _ => g1 x (by omega)) (fun x hx => g3 x (by omega)), ?_⟩
  have es : svL J1 L1' (tqX g I1) (wdX m k o r ans b c I1) (woX m k o ans b c I1) wl = svL J L' (tqX g I) (wdX m k o r ans b c I) (woX m k o ans b c I) wl := by
    funext i
    unfold svL
    rw [J21, ln2, l25, tqX_cg (fun x _ h2 => fI x (by omega)), wdX_cg (fI 83 (by decide)) (fI 96 (by decide)) (fI 107 (by decide)), woX_cg (fI 96 (by decide)) (fI 107 (by decide)) (fI 97 (by decide)) (fI 110 (by decide)) (fI 111 (by decide))]
  unfold letK
  rw [es, fI 116 (by decide)]
  rcases hL with z | ⟨z, zl⟩
  · exact Or.inl z
  · exact Or.inr ⟨z, zl.mv (fI 120 (by decide)) (f3 118 (by decide) (by decide) (by decide) (by decide)) (f3 119 (by decide) (by decide) (by decide) (by decide))⟩
/-- arm(x) beside the rules -/
theorem arm_rul {g : Nat} (hg : g + 10 < 60) (hK : mK m I J) (hR : rulK g m N I J L L') (h0 : I 0 11 = J 0 18) (x : Int32) : (∃ v : Int64, jv (d + 4) 197 0 [some (.ref 0), some (.int x)] [] (shC, I, L, pX pa pb pu pw) = some (some (.long v), (shC, I, L, pX pa pb pu pw)) ∧ jv (e + 9) 327 0 [some (.ref 0), some (.int x), none] [] (shR, J, L', pR) = some (some (.long v), (shR, J, L', pR))) ∨ ∃ (v : Int64) (I1 J1 : Nat → Nat → Int32) (L1 L1' : Nat → Nat → Int64), rulK g m N I1 J1 L1 L1' ∧ leF I I1 L L1 ∧ frB J J1 L' L1' ∧ jv (d + 4) 197 0 [some (.ref 0), some (.int x)] [] (shC, I, L, pX pa pb pu pw) = some (some (.long v), (shC, I1, L1, pX pa pb pu pw)) ∧ jv (e + 9) 327 0 [some (.ref 0), some (.int x), none] [] (shR, J, L', pR) = some (some (.long v), (shR, J1, L1', pR)) := by
  obtain ⟨k, o, r, ans, b, c, nl, nt, nu, np, nc, nr, wl, hD, h1, h2, hP, hL⟩ := hR
  have r1 := rests_c1 (d := d + 3) (pa := pa) (pb := pb) (pu := pu) (pw := pw) hD h1
  have r2 := rests_r1 (e := e + 8) (L := L') h2
  rw [B197_0, h0, B327_0]
  by_cases q3 : J 0 18 = 0
  case neg =>
    refine Or.inl ⟨-9223372036854775808, by rw [if_neg q3, B197_31], ?_⟩
    rw [if_neg q3, B327_28, ite_self, ite_self]
  rw [if_pos q3, jgo_some (d := d + 3) rfl r1, if_pos q3, jgo_some (d := e + 8) rfl r2]
  dsimp only [Option.toList_some, Option.toList_none, List.cons_append, List.nil_append]
  rw [B197_14, B327_25, B197_31, B327_28]
  by_cases z : rsB k ans = true
  case neg =>
    refine Or.inl ⟨-9223372036854775808, by rw [if_neg z, if_pos rfl], ?_⟩
    rw [if_neg z, if_pos rfl, ite_self, ite_self]
  rw [if_pos z, if_neg (show ¬ (1 : Int32) = 0 by decide), if_neg (show ¬ (1 : Int32) = 0 by decide)]
  by_cases q1 : x < -2048
  · exact Or.inl ⟨-9223372036854775808, by rw [if_pos q1], by rw [if_pos q1]⟩
  by_cases q2 : (2048 : Int32) < x
  · exact Or.inl ⟨-9223372036854775808, by rw [if_neg q1, if_pos q2], by rw [if_neg q1, if_pos q2]⟩
  rw [if_neg q1, if_neg q2, if_neg q1, if_neg q2]
  obtain ⟨cc, hx, hc⟩ : ∃ c : Int, x = vI c ∧ (-2048 ≤ c ∧ c ≤ 2048) := by
    refine ⟨x.toInt, (Int32.ofInt_toInt x).symm, ?_⟩
    rw [Int32.lt_iff_toInt_lt] at q1 q2
    have e1 : (-2048 : Int32).toInt = -2048 := by decide
    have e2 : (2048 : Int32).toInt = 2048 := by decide
    omega
  subst hx
  obtain ⟨k1, a0, -⟩ := rsB_t hD z
  subst k1
  obtain ⟨-, y3, y4, -⟩ := h1.known
  obtain ⟨-, y5, -⟩ := h2.known
  obtain ⟨I1, L1, f1, f2, f3, -, f5⟩ := lever_c (d := d) (pa := pa) (pb := pb) (pu := pu) (pw := pw) y3 y4 h1.2.1 hc
  obtain ⟨J1, L1', g1, g2⟩ := trim_r (e := e) y5 hc
  have c1 := h1.lev f1 f2 f3
  have fin : ∀ {J2 : Nat → Nat → Int32} {L2' : Nat → Nat → Int64}, frB J J2 L' L2' → rulK g m N I1 J2 L1 L2' := fun {J2 L2'} hf => rul_lev hg ((hK.q.fr (fun q _ => by rw [f1.1 2 (by decide) (by decide) (by decide)])).frR (fun x x1 _ => hf.1 x x1)) hD c1 (h2.wo hf.wo) hP hL f1 hf
  rw [jgo_some (d := d + 3) rfl f5, jgo_some (d := e + 8) rfl g2]
  dsimp only [Option.toList_some, Option.toList_none, List.cons_append, List.nil_append]
  rw [B197_43, B327_37]
  unfold lvV
  cases ht : tR m o cc with
  | none => exact Or.inr ⟨_, I1, J1, L1, L1', fin g1, f1, g1, rfl, by dsimp only; rw [if_pos rfl]⟩
  | some bb =>
    have hb := tR_b ht
    obtain ⟨J2, L2', w1, w2, w3⟩ := balance_r (e := e + 2) (y5.fr g1) (b := bb) (c := cc) (by omega) hc
    refine Or.inr ⟨_, I1, J2, L1, L2', fin (g1.trans w1), f1, g1.trans w1, rfl, ?_⟩
    dsimp only
    rw [if_neg (show ¬ vI bb = 99999 from fun y => by
      have := congrArg Int32.toInt y
      rw [vI_i (by omega) (by omega)] at this
      have e9 : (99999 : Int32).toInt = 99999 := by decide
      omega), jgo_some (d := e + 8) rfl w3]
    dsimp only [Option.toList_some, Option.toList_none, List.cons_append, List.nil_append]
    rw [B327_55, jgo_some (d := e + 8) rfl (across_r (e := e + 7) ((y5.fr g1).fr w1).1 w2 hc)]
    dsimp only [Option.toList_some, Option.toList_none, List.cons_append, List.nil_append]
    rw [B327_60]
/-- the same lets by two readings of one text -/
theorem letC.same {sv sv' : Nat → Nat × Int × Int} {nl' : Nat} {I' : Nat → Nat → Int32} {L1 : Nat → Nat → Int64} (e : nl' = nl) (h : letC I L nl sv) (h1 : letC I' L1 nl sv) (h2 : letC I' L1 nl' sv') : letC I L nl' sv' := by
  subst e
  refine ⟨h.1, fun i hi => ?_⟩
  obtain ⟨a1, x, q, a2, a3, a4, a5, a6, a7⟩ := h.2 i hi
  obtain ⟨b1, x1, q1, b2, b3, b4, b5, b6, b7⟩ := h1.2 i hi
  obtain ⟨c1, x2, q2, c2, c3, c4, c5, c6, c7⟩ := h2.2 i hi
  have inj : ∀ {p q : Int × Int}, fN p → fN q → lI p.1 = lI q.1 → lI p.2 = lI q.2 → p = q := by
    intro p q hp hq e1 e2
    have u1 := congrArg Int64.toInt e1
    rw [hp.1.i, hq.1.i] at u1
    have u2 := congrArg Int64.toInt e2
    have hH : HG = 1000000000000000000 := rfl
    have p2 := hp.2
    have q2 := hq.2
    rw [hH] at p2 q2
    rw [lI_toInt (by omega) (by omega), lI_toInt (by omega) (by omega)] at u2
    exact Prod.ext u1 u2
  have q12 : q1 = q2 := inj b3 c3 (b4.symm.trans c4) (b5.symm.trans c5)
  have xx : nI x1 = nI x2 := b2.symm.trans c2
  have le : ∀ {x : Nat} {p : Nat × Int × Int}, ((p.1 ≤ 10000 → x = p.1 ∧ True) ∧ (10000 < p.1 → x = 10001)) → x ≤ 10001 := by
    intro x p hh
    by_cases z : p.1 ≤ 10000
    · have := (hh.1 z).1; omega
    · have := hh.2 (by omega); omega
  have x1b : x1 ≤ 10001 := le (p := sv i) ⟨fun z => ⟨(b6 z).1, trivial⟩, b7⟩
  have x2b : x2 ≤ 10001 := le (p := sv' i) ⟨fun z => ⟨(c6 z).1, trivial⟩, c7⟩
  have x12 : x1 = x2 := (nI_eq (by omega) (by omega)).mp xx
  refine ⟨c1, x, q, a2, a3, a4, a5, fun z => ?_, fun z => ?_⟩
  · have z1 := c6 z
    have z2 : (sv i).1 ≤ 10000 := by
      by_cases y : (sv i).1 ≤ 10000
      · exact y
      · have := b7 (by omega); omega
    have z3 := b6 z2
    have z4 := a6 z2
    exact ⟨by omega, by rw [z4.2, ← z3.2, q12, z1.2]⟩
  · have z1 := c7 z
    have z2 : 10000 < (sv i).1 := by
      by_cases y : (sv i).1 ≤ 10000
      · have := b6 y; omega
      · omega
    exact a7 z2
/-- the rules over a text read again by the second one -/
theorem rul_again38 {J2 : Nat → Nat → Int32} {L2' : Nat → Nat → Int64} (hK : mK m I J) (hR : rulK 38 m N I J L L') (hK2 : mK m I J2) (f1 : ∀ x, x ≠ 0 → x < 18 ∨ 36 < x → J2 x = J x) (f2 : ∀ q, 59 ≤ q → q ≤ 68 → J2 0 q = J 0 q) (f3 : ∀ x, x < 20 ∨ 35 < x → L2' x = L' x) (hP : prG 38 I J2 L2') : rulK 38 m N I J2 L L2' := by
  obtain ⟨k, o, r, ans, b, c, nl, nt, nu, np, nc, nr, wl, hD, h1, h2, hP1, hL⟩ := hR
  obtain ⟨nl', nt', nu', np', nc', nr', wl', hP2⟩ := hP
  have hP2' : prB 38 nl' nt' nu' np' nc' nr' wl' I J2 L2' := hP2
  have nle : nl' = nl := (nI_eq (by have := hP2'.1; omega) (by have := hP1.1; omega)).mp (hP2'.2.2.2.2.1.symm.trans hP1.2.2.2.2.1)
  have hr2 : rH m k o r ans b c I J2 L2' := by
    obtain ⟨n4, h2⟩ := h2
    refine ⟨by rw [f3 40 (by decide), f3 41 (by decide)]; exact n4, ?_⟩
    cases k with
    | false => rw [if_pos rfl] at h2 ⊢; rw [f2 59 (by decide) (by decide)]; exact h2
    | true =>
      rw [if_neg (by decide)] at h2 ⊢
      obtain ⟨z2, ⟨s1, s2, s3, s4, ⟨g, s5, s6⟩, s7⟩, y7, hR⟩ := h2
      refine ⟨by rw [f2 59 (by decide) (by decide)]; exact z2, ⟨hK2.q, s2, s3, by rw [f2 62 (by decide) (by decide)]; exact s4, ⟨g, s5.cg2 (fun x h1 h2 => f1 x (by omega) (by omega)), by rw [f1 44 (by decide) (by decide)]; exact s6⟩, by rw [f3 0 (by decide)]; exact s7⟩, by rw [f2 60 (by decide) (by decide), f2 61 (by decide) (by decide), f3 0 (by decide)]; exact y7, fun z => ?_⟩
      obtain ⟨r1, r2, r3, r4, r5, r6⟩ := hR z
      exact ⟨by rw [f2 66 (by decide) (by decide), f2 67 (by decide) (by decide), f2 68 (by decide) (by decide)]; exact r1, by rw [f3 0 (by decide), f3 38 (by decide)]; exact r2, fun s hs => by rw [f3 39 (by decide)]; exact r3 s hs, fun i hi => by rw [f1 42 (by decide) (by decide)]; exact r4 i hi, fun p hp hl => by rw [f1 43 (by decide) (by decide)]; exact r5 p hp hl, fun q hq => by rw [f3 40 (by decide), f3 41 (by decide)]; exact r6 q hq⟩
  refine ⟨k, o, r, ans, b, c, nl', nt', nu', np', nc', nr', wl', hD, h1.toJ hK2.q, hr2, hP2', ?_⟩
  rcases hL with z | ⟨z, zl⟩
  · exact Or.inl z
  refine Or.inr ⟨z, ?_⟩
  -- a run of the first one from scratch, read against both
  have fx : ∀ x, x ≠ 116 → j_up I 116 10 0 x = I x := fun x hx => by rw [j_up_cell _ hx]
  have z0 : j_up I 116 10 0 116 10 = 0 := by rw [j_up_eq]
  have e1 : ∀ {JJ : Nat → Nat → Int32} {LL : Nat → Nat → Int64} {n1 n2 n3 n4 n5 n6 : Nat} {w1 : Nat → Nat}, mK m I JJ → cH m k N o r ans b c I JJ L → prB 38 n1 n2 n3 n4 n5 n6 w1 I JJ LL → ∃ I1 L1, jv 471 142 0 [some (.ref 116), some (.ref 38), none] [] (shC, j_up I 116 10 0, L, pX none none none none) = some (none, (shC, I1, L1, pX none none none (some 38))) ∧ letC I1 L1 n1 (svL JJ LL (tqX 38 I) (wdX m k o r ans b c I) (woX m k o ans b c I) w1) := by
    intro JJ LL n1 n2 n3 n4 n5 n6 w1 q1 q2 q3
    obtain ⟨I1, L1, a1, a2, a3, a4, a5⟩ := lets_38 (d := 470) (pa := none) (pb := none) (pu := none) (pw := none) (by omega) hD (q1.fr (fx 2 (by decide))) (q2.cg (fun x hx => fx x (by omega)) (fun _ _ _ => rfl)) (q3.congr (fun x _ h2 => fx x (by omega)) (fun _ _ => rfl) (fun _ _ _ => rfl) (fun _ _ => rfl)) (Or.inl z0)
    rw [tqX_cg (I := I) (fun x _ h2 => fx x (by omega)), wdX_cg (I := I) (fx 83 (by decide)) (fx 96 (by decide)) (fx 107 (by decide)), woX_cg (I := I) (fx 96 (by decide)) (fx 107 (by decide)) (fx 97 (by decide)) (fx 110 (by decide)) (fx 111 (by decide))] at a5
    exact ⟨I1, L1, a1, a5⟩
  obtain ⟨I1, L1, a1, a2⟩ := e1 hK h1 hP1
  obtain ⟨I1', L1', b1, b2⟩ := e1 hK2 (h1.toJ hK2.q) hP2'
  rw [a1] at b1
  injection b1 with b1
  injection b1 with _ b1
  injection b1 with _ b1
  injection b1 with q1 b1
  injection b1 with q2 _
  subst q1
  subst q2
  exact zl.same nle a2 b2
/-- the rules over a text read again by the second one -/
theorem rul_again49 {J2 : Nat → Nat → Int32} {L2' : Nat → Nat → Int64} (hK : mK m I J) (hR : rulK 49 m N I J L L') (hK2 : mK m I J2) (f1 : ∀ x, x ≠ 0 → x < 18 ∨ 36 < x → J2 x = J x) (f2 : ∀ q, 59 ≤ q → q ≤ 68 → J2 0 q = J 0 q) (f3 : ∀ x, x < 20 ∨ 35 < x → L2' x = L' x) (hP : prG 49 I J2 L2') : rulK 49 m N I J2 L L2' := by
  obtain ⟨k, o, r, ans, b, c, nl, nt, nu, np, nc, nr, wl, hD, h1, h2, hP1, hL⟩ := hR
  obtain ⟨nl', nt', nu', np', nc', nr', wl', hP2⟩ := hP
  have hP2' : prB 49 nl' nt' nu' np' nc' nr' wl' I J2 L2' := hP2
  have nle : nl' = nl := (nI_eq (by have := hP2'.1; omega) (by have := hP1.1; omega)).mp (hP2'.2.2.2.2.1.symm.trans hP1.2.2.2.2.1)
  have hr2 : rH m k o r ans b c I J2 L2' := by
    obtain ⟨n4, h2⟩ := h2
    refine ⟨by rw [f3 40 (by decide), f3 41 (by decide)]; exact n4, ?_⟩
    cases k with
    | false => rw [if_pos rfl] at h2 ⊢; rw [f2 59 (by decide) (by decide)]; exact h2
    | true =>
      rw [if_neg (by decide)] at h2 ⊢
      obtain ⟨z2, ⟨s1, s2, s3, s4, ⟨g, s5, s6⟩, s7⟩, y7, hR⟩ := h2
      refine ⟨by rw [f2 59 (by decide) (by decide)]; exact z2, ⟨hK2.q, s2, s3, by rw [f2 62 (by decide) (by decide)]; exact s4, ⟨g, s5.cg2 (fun x h1 h2 => f1 x (by omega) (by omega)), by rw [f1 44 (by decide) (by decide)]; exact s6⟩, by rw [f3 0 (by decide)]; exact s7⟩, by rw [f2 60 (by decide) (by decide), f2 61 (by decide) (by decide), f3 0 (by decide)]; exact y7, fun z => ?_⟩
      obtain ⟨r1, r2, r3, r4, r5, r6⟩ := hR z
      exact ⟨by rw [f2 66 (by decide) (by decide), f2 67 (by decide) (by decide), f2 68 (by decide) (by decide)]; exact r1, by rw [f3 0 (by decide), f3 38 (by decide)]; exact r2, fun s hs => by rw [f3 39 (by decide)]; exact r3 s hs, fun i hi => by rw [f1 42 (by decide) (by decide)]; exact r4 i hi, fun p hp hl => by rw [f1 43 (by decide) (by decide)]; exact r5 p hp hl, fun q hq => by rw [f3 40 (by decide), f3 41 (by decide)]; exact r6 q hq⟩
  refine ⟨k, o, r, ans, b, c, nl', nt', nu', np', nc', nr', wl', hD, h1.toJ hK2.q, hr2, hP2', ?_⟩
  rcases hL with z | ⟨z, zl⟩
  · exact Or.inl z
  refine Or.inr ⟨z, ?_⟩
  -- a run of the first one from scratch, read against both
  have fx : ∀ x, x ≠ 116 → j_up I 116 10 0 x = I x := fun x hx => by rw [j_up_cell _ hx]
  have z0 : j_up I 116 10 0 116 10 = 0 := by rw [j_up_eq]
  have e1 : ∀ {JJ : Nat → Nat → Int32} {LL : Nat → Nat → Int64} {n1 n2 n3 n4 n5 n6 : Nat} {w1 : Nat → Nat}, mK m I JJ → cH m k N o r ans b c I JJ L → prB 49 n1 n2 n3 n4 n5 n6 w1 I JJ LL → ∃ I1 L1, jv 471 142 0 [some (.ref 116), some (.ref 49), none] [] (shC, j_up I 116 10 0, L, pX none none none none) = some (none, (shC, I1, L1, pX none none none (some 49))) ∧ letC I1 L1 n1 (svL JJ LL (tqX 49 I) (wdX m k o r ans b c I) (woX m k o ans b c I) w1) := by
    intro JJ LL n1 n2 n3 n4 n5 n6 w1 q1 q2 q3
    obtain ⟨I1, L1, a1, a2, a3, a4, a5⟩ := lets_49 (d := 470) (pa := none) (pb := none) (pu := none) (pw := none) (by omega) hD (q1.fr (fx 2 (by decide))) (q2.cg (fun x hx => fx x (by omega)) (fun _ _ _ => rfl)) (q3.congr (fun x _ h2 => fx x (by omega)) (fun _ _ => rfl) (fun _ _ _ => rfl) (fun _ _ => rfl)) (Or.inl z0)
    rw [tqX_cg (I := I) (fun x _ h2 => fx x (by omega)), wdX_cg (I := I) (fx 83 (by decide)) (fx 96 (by decide)) (fx 107 (by decide)), woX_cg (I := I) (fx 96 (by decide)) (fx 107 (by decide)) (fx 97 (by decide)) (fx 110 (by decide)) (fx 111 (by decide))] at a5
    exact ⟨I1, L1, a1, a5⟩
  obtain ⟨I1, L1, a1, a2⟩ := e1 hK h1 hP1
  obtain ⟨I1', L1', b1, b2⟩ := e1 hK2 (h1.toJ hK2.q) hP2'
  rw [a1] at b1
  injection b1 with b1
  injection b1 with _ b1
  injection b1 with _ b1
  injection b1 with q1 b1
  injection b1 with q2 _
  subst q1
  subst q2
  exact zl.same nle a2 b2
end SECC
