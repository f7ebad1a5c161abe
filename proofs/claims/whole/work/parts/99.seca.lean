/-! RULES: a rule's verdict and its steps, a let's number, both -/
section SECA
variable {d e : Nat} {I J I0 J0 : Nat → Nat → Int32} {L L' Lr : Nat → Nat → Int64} {pa pb pu pw : Option Nat} {m : Nat → Int32} {k : Bool} {N o r nt np nl nu nc nr : Nat} {wl : Nat → Nat} {ans : Int32} {b c : Int}
theorem tqX_cg {g : Nat} {I2 : Nat → Nat → Int32} (h : ∀ x, g ≤ x → x ≤ g + 10 → I2 x = I x) : tqX g I2 = tqX g I := by
  funext t p
  unfold tqX
  rw [h (g + 10) (by omega) (by omega), h (g + 8) (by omega) (by omega), h (g + 9) (by omega) (by omega)]
theorem wdX_cg {I2 : Nat → Nat → Int32} (h1 : I2 83 = I 83) (h2 : I2 96 = I 96) (h3 : I2 107 = I 107) : wdX m k o r ans b c I2 = wdX m k o r ans b c I := by
  funext w
  unfold wdX
  rw [wdA_cg h1 h2 h3]
theorem woX_cg {I2 : Nat → Nat → Int32} (h2 : I2 96 = I 96) (h3 : I2 107 = I 107) (h4 : I2 97 = I 97) (h5 : I2 110 = I 110) (h6 : I2 111 = I 111) : woX m k o ans b c I2 = woX m k o ans b c I := by
  funext w p
  unfold woX
  rw [woA_cg h2 h3 h4 h5 h6]
theorem letC.mv {I2 : Nat → Nat → Int32} {L2 : Nat → Nat → Int64} {sv : Nat → Nat × Int × Int} (h : letC I L nl sv) (h1 : I2 120 = I 120) (h2 : L2 118 = L 118) (h3 : L2 119 = L 119) : letC I2 L2 nl sv := ⟨h.1, fun i hi => by rw [h1, h2, h3]; exact h.2 i hi⟩
/-- what rules leave, in both -/
theorem rul_back {g t : Nat} {I1 I2 J2 : Nat → Nat → Int32} {L1 L2 L2' : Nat → Nat → Int64} {rho : Nat → Nat} {cc : Nat → Int} (hg : g + 10 < 60) (hD : k = true → seaD m o r ans b c) (hP : prB g nl nt nu np nc nr wl I J L') (ls : lsB I I1 L L1) (k1 : I1 116 10 = 1) (hl : letC I1 L1 nl (svL J L' (tqX g I) (wdX m k o r ans b c I) (woX m k o ans b c I) wl)) (hC : cSt (wIx m k N o r ans b c J) I1 L1 0 rho cc t I2 L2) (hR : wJx m k o r ans b c I J L' J2 L2') : mK m I2 J2 ∧ knW I2 J2 ∧ rulK g m N I2 J2 L2 L2' ∧ lsB I I2 L L2 ∧ frX J J2 L' L2' := by
  obtain ⟨s1, s2, s3, s4, s5, w1, w2⟩ := hC
  obtain ⟨v1, v2, v3, v4⟩ := hR
  have fI : ∀ x, x < 60 ∨ 82 < x → x ≠ 116 → x ≠ 120 → I2 x = I x := fun x h1 h2 h3 => by rw [s1 x h1 h2, ls.1 x h1 h2 h3]
  have K2 : mK m I2 J2 := w1.frR (fun x x1 _ => v4.1 x x1)
  have J21 : (fun c i => J2 (21 + c) i) = (fun c i => J (21 + c) i) := by funext c i; rw [v4.1 (21 + c) (by omega)]
  have ln2 : lnR J2 = lnR J := by funext i; unfold lnR; rw [v4.1 27 (by decide)]
  have l25 : L2' 25 = L' 25 := v4.2.2.1 25 (by decide) (by decide)
  refine ⟨K2, v2.toI (fun x h1 h2 h3 => fI x (Or.inr h1) h2 h3), ⟨k, o, r, ans, b, c, nl, nt, nu, np, nc, nr, wl, hD, w2.toJ K2.q, v3.toI K2.q, hP.congr (fun x h1 h2 => fI x (by omega) (by omega) (by omega)) (fun q hq => v4.2.1 q (by omega) (by omega) (by omega) (by omega)) (fun x h1 h2 => v4.1 x (by omega)) (fun x hx => v4.2.2.1 x (by omega) (by omega)), Or.inr ⟨by rw [s2 10 (by decide)]; exact k1, ?_⟩⟩, ⟨fI, fun q h1 h2 => by rw [s2 q h1, ls.2.1 q h1 h2], fun x h1 h2 h3 h4 h5 => by rw [s4 x h1 h2 h3, ls.2.2 x h1 h2 h3 h4 h5]⟩, v4⟩
  have es : svL J2 L2' (tqX g I2) (wdX m k o r ans b c I2) (woX m k o ans b c I2) wl = svL J L' (tqX g I) (wdX m k o r ans b c I) (woX m k o ans b c I) wl := by
    funext i
    unfold svL
    rw [J21, ln2, l25, tqX_cg (fun x h1 h2 => fI x (by omega) (by omega) (by omega)), wdX_cg (fI 83 (by decide) (by decide) (by decide)) (fI 96 (by decide) (by decide) (by decide)) (fI 107 (by decide) (by decide) (by decide)), woX_cg (fI 96 (by decide) (by decide) (by decide)) (fI 107 (by decide) (by decide) (by decide)) (fI 97 (by decide) (by decide) (by decide)) (fI 110 (by decide) (by decide) (by decide)) (fI 111 (by decide) (by decide) (by decide))]
  rw [es]
  exact hl.mv (s1 120 (by decide) (by decide)) (s4 118 (by decide) (by decide) (by decide)) (s4 119 (by decide) (by decide) (by decide))
theorem frX.rfl' : frX J J L' L' := ⟨fun _ _ => rfl, fun _ _ _ _ _ => rfl, fun _ _ _ => rfl, fun _ _ _ _ => rfl⟩
/-- a rule, in both -/
theorem rule_38 (hd : 480 ≤ d) (he : 1300 ≤ e) (hD : k = true → seaD m o r ans b c) (hK : mK m I J) (kn : knW I J) (h1 : cH m k N o r ans b c I J L) (h2 : rH m k o r ans b c I J L') (hP : prB 38 nl nt nu np nc nr wl I J L') (hL : letK 38 nl wl m k o r ans b c I J L L') {u : Nat} (hu : u < nu) : ∃ (v s : Int32) (I1 I2 J2 : Nat → Nat → Int32) (L1 L2 L2' : Nat → Nat → Int64), jv (d + 1) 142 0 [some (.ref 116), some (.ref 38), none] [] (shC, I, L, pX pa pb pu pw) = some (none, (shC, I1, L1, pX pa pb pu (some 38))) ∧ jv (d + 1) 140 0 [some (.ref 116), some (.ref 38), some (.int (nI u)), none] [] (shC, I1, L1, pX pa pb pu (some 38)) = some (some (.int v), (shC, I2, L2, pX pa pb pu (some 38))) ∧ I2 116 8 = s ∧ jv (e + 1) 295 0 [some (.ref 0), some (.int (nI u)), none] [] (shR, J, L', pR) = some (some (.int v), (shR, J2, L2', pR)) ∧ (if J2 0 57 = 0 then J2 0 56 else 10001) = s ∧ mK m I2 J2 ∧ knW I2 J2 ∧ rulK 38 m N I2 J2 L2 L2' ∧ lsB I I2 L L2 ∧ frX J J2 L' L2' := by
  obtain ⟨I1, L1, a1, a2, a3, a4, a5⟩ := lets_38 (d := d) (pa := pa) (pb := pb) (pu := pu) (pw := pw) (by omega) hD hK h1 hP hL
  have f1 : ∀ x, x < 60 → I1 x = I x := fun x hx => a2.1 x (Or.inl hx) (by omega) (by omega)
  have hP1 : prB 38 nl nt nu np nc nr wl I1 J L' := hP.congr (fun x _ h2 => f1 x (by omega)) (fun _ _ => rfl) (fun _ _ _ => rfl) (fun _ _ => rfl)
  obtain ⟨b1, b2, b3, b4, b5, b6, b7, b8, b9, b10, b11, b12, b13, b14, b15⟩ := hP1
  obtain ⟨n, kk, mm, mt, w, c1, c2, c3, c4, c5, c6⟩ := b12 u hu
  have rl := c6 (fun c i => I1 (38 + 1 + c) i) (fun c i => J (21 + c) i) (L' 25) (fun _ _ _ _ _ => rfl) (fun _ _ _ _ _ => rfl) (fun _ _ _ => rfl)
  obtain ⟨p1, p2⟩ := b11.lt b14 (I := I1) (fun _ _ => rfl)
  have EC : envC 38 (wIx m k N o r ans b c J) I1 L1 nt (tqX 38 I) (wdX m k o r ans b c I) (woX m k o ans b c I) pa pb pu := envC_38 hD b2 hP.2.2.2.2.2.2.2.2.2.2.2.2.1 hK (fun x h1 h2 h3 => a2.1 x h1 h2 h3)
  have ER : envR (wJx m k o r ans b c I J L') J L' nl nt (lnR J) (tqX 38 I) (wdX m k o r ans b c I) (woX m k o ans b c I) := envR_38 hD b2 b4 hP.2.2.2.2.2.2.2.2.2.2.2.2.1 (fun i hi => by
    obtain ⟨n, mt, q1, q2, q3, -⟩ := b11.at (I := I1) (fun _ _ => rfl) i hi
    exact q3) hK
  obtain ⟨I2, L2, t, d1, d2, d3⟩ := judge_c38 (d := d) (by omega) EC b1 b11 b14 a5 (show u < 24 by omega) c4 c1 c2 c3 rl a4
  obtain ⟨J2, L2', t', e1, e2, e3⟩ := judge_r (C := fun c i => I1 (38 + 1 + c) i) (e := e) (by omega) ER b1 p1 p2 (show u < 24 by omega) c5 c1 c2 rl ⟨hK, kn, h2, frX.rfl'⟩
  obtain ⟨g1, g2, g3, g4, g5⟩ := rul_back (by decide) hD hP a2 a3 a5 d3 e3.2.2.2.2.2
  exact ⟨_, _, I1, I2, J2, L1, L2, L2', a1, d1, d2, e1, e2, g1, g2, g3, g4, g5⟩
/-- verdict(x) -/
theorem verdict_38 (hd : 480 ≤ d) (he : 1300 ≤ e) (hK : mK m I J) (kn : knW I J) (hR : rulK 38 m N I J L L') (h0 : I 0 11 = J 0 18) (x : Int32) : (∃ v, jv (d + 2) 200 0 [some (.ref 0), some (.int x)] [] (shC, I, L, pX (some 38) pb pu pw) = some (some (.int v), (shC, I, L, pX (some 38) pb pu pw)) ∧ jv (e + 2) 296 0 [some (.ref 0), some (.int x)] [] (shR, J, L', pR) = some (some (.int v), (shR, J, L', pR))) ∨ ∃ (v : Int32) (I2 J2 : Nat → Nat → Int32) (L2 L2' : Nat → Nat → Int64), mK m I2 J2 ∧ knW I2 J2 ∧ rulK 38 m N I2 J2 L2 L2' ∧ lsB I I2 L L2 ∧ frX J J2 L' L2' ∧ jv (d + 2) 200 0 [some (.ref 0), some (.int x)] [] (shC, I, L, pX (some 38) pb pu pw) = some (some (.int v), (shC, I2, L2, pX (some 38) pb pu (some 38))) ∧ jv (e + 2) 296 0 [some (.ref 0), some (.int x)] [] (shR, J, L', pR) = some (some (.int v), (shR, J2, L2', pR)) := by
  obtain ⟨k, o, r, ans, b, c, nl, nt, nu, np, nc, nr, wl, hD, h1, h2, hP, hL⟩ := hR
  have e13 : I 38 13 = nI nu := hP.2.2.2.2.2.2.1
  have e49 : J 0 49 = nI nu := hP.2.2.2.2.2.2.2.2.2.1
  have n24 : nu ≤ 24 := hP.2.2.1
  rw [B200_0_g38, B200_15_g38, B296_0, B296_12]
  by_cases q1 : x < 0
  · exact Or.inl ⟨-1, by rw [if_pos q1], by rw [if_pos q1]⟩
  rw [if_neg q1, if_neg q1, e13, e49]
  obtain ⟨u, u1, rfl⟩ := nI_of q1
  by_cases q2 : u < nu
  case neg => exact Or.inl ⟨-1, by rw [if_neg (nI_nlt (by omega) (by omega))], by rw [if_neg (nI_nlt (by omega) (by omega))]⟩
  rw [if_pos (nI_lt q2 (by omega)), if_pos (nI_lt q2 (by omega)), h0]
  by_cases q3 : J 0 18 = 0
  case neg => exact Or.inl ⟨-3, by rw [if_neg q3], by rw [if_neg q3, B296_31]⟩
  obtain ⟨v, s, I1, I2, J2, L1, L2, L2', r1, r2, -, r4, -, r6, r7, r8, r9, r10⟩ := rule_38 (pa := some 38) (pb := pb) (pu := pu) (pw := pw) hd he hD hK kn h1 h2 hP hL q2
  refine Or.inr ⟨v, I2, J2, L2, L2', r6, r7, r8, r9, r10, ?_, ?_⟩
  · rw [if_pos q3, jgo_some (d := d + 1) rfl r1]
    dsimp only [Option.toList_some, Option.toList_none, List.cons_append, List.nil_append]
    rw [B200_38_g38, jgo_some (d := d + 1) rfl r2]
    dsimp only [Option.toList_some, Option.toList_none, List.cons_append, List.nil_append]
    rw [B200_50_g38]
  · rw [if_pos q3, jgo_some (d := e + 1) rfl r4]
    dsimp only [Option.toList_some, Option.toList_none, List.cons_append, List.nil_append]
    rw [B296_31]
/-- steps(x) -/
theorem steps_38 (hd : 480 ≤ d) (he : 1300 ≤ e) (hK : mK m I J) (kn : knW I J) (hR : rulK 38 m N I J L L') (h0 : I 0 11 = J 0 18) (x : Int32) : (∃ v, jv (d + 2) 201 0 [some (.ref 0), some (.int x)] [] (shC, I, L, pX (some 38) pb pu pw) = some (some (.int v), (shC, I, L, pX (some 38) pb pu pw)) ∧ jv (e + 2) 297 0 [some (.ref 0), some (.int x)] [] (shR, J, L', pR) = some (some (.int v), (shR, J, L', pR))) ∨ ∃ (v : Int32) (I2 J2 : Nat → Nat → Int32) (L2 L2' : Nat → Nat → Int64), mK m I2 J2 ∧ knW I2 J2 ∧ rulK 38 m N I2 J2 L2 L2' ∧ lsB I I2 L L2 ∧ frX J J2 L' L2' ∧ jv (d + 2) 201 0 [some (.ref 0), some (.int x)] [] (shC, I, L, pX (some 38) pb pu pw) = some (some (.int v), (shC, I2, L2, pX (some 38) pb pu (some 38))) ∧ jv (e + 2) 297 0 [some (.ref 0), some (.int x)] [] (shR, J, L', pR) = some (some (.int v), (shR, J2, L2', pR)) := by
  obtain ⟨k, o, r, ans, b, c, nl, nt, nu, np, nc, nr, wl, hD, h1, h2, hP, hL⟩ := hR
  have e13 : I 38 13 = nI nu := hP.2.2.2.2.2.2.1
  have e49 : J 0 49 = nI nu := hP.2.2.2.2.2.2.2.2.2.1
  have n24 : nu ≤ 24 := hP.2.2.1
  rw [B201_0_g38, B201_15_g38, B297_0, B297_12]
  by_cases q1 : x < 0
  · exact Or.inl ⟨-1, by rw [if_pos q1], by rw [if_pos q1]⟩
  rw [if_neg q1, if_neg q1, e13, e49]
  obtain ⟨u, u1, rfl⟩ := nI_of q1
  by_cases q2 : u < nu
  case neg => exact Or.inl ⟨-1, by rw [if_neg (nI_nlt (by omega) (by omega))], by rw [if_neg (nI_nlt (by omega) (by omega))]⟩
  rw [if_pos (nI_lt q2 (by omega)), if_pos (nI_lt q2 (by omega)), h0]
  by_cases q3 : J 0 18 = 0
  case neg => exact Or.inl ⟨-3, by rw [if_neg q3], by rw [if_neg q3]⟩
  obtain ⟨v, s, I1, I2, J2, L1, L2, L2', r1, r2, r3, r4, r5, r6, r7, r8, r9, r10⟩ := rule_38 (pa := some 38) (pb := pb) (pu := pu) (pw := pw) hd he hD hK kn h1 h2 hP hL q2
  refine Or.inr ⟨s, I2, J2, L2, L2', r6, r7, r8, r9, r10, ?_, ?_⟩
  · rw [if_pos q3, jgo_some (d := d + 1) rfl r1]
    dsimp only [Option.toList_some, Option.toList_none, List.cons_append, List.nil_append]
    rw [B201_38_g38, jgo_some (d := d + 1) rfl r2]
    dsimp only [Option.toList_some, Option.toList_none, List.cons_append, List.nil_append]
    rw [B201_50_g38, r3]
  · rw [if_pos q3, jgo_some (d := e + 1) rfl r4]
    dsimp only [Option.toList_some, Option.toList_none, List.cons_append, List.nil_append]
    rw [B297_29]
    by_cases z : J2 0 57 = 0
    · rw [if_pos z] at r5 ⊢; rw [B297_47, r5]
    · rw [if_neg z] at r5 ⊢; rw [B297_47, r5]
/-- rules(x) -/
theorem rules_38 (hR : rulK 38 m N I J L L') (h0 : I 0 11 = J 0 18) (x : Int32) : ∃ v, jv d 199 0 [some (.ref 0), some (.int x)] [] (shC, I, L, pX (some 38) pb pu pw) = some (some (.int v), (shC, I, L, pX (some 38) pb pu pw)) ∧ jv e 294 0 [some (.ref 0), some (.int x)] [] (shR, J, L', pR) = some (some (.int v), (shR, J, L', pR)) := by
  obtain ⟨k, o, r, ans, b, c, nl, nt, nu, np, nc, nr, wl, hD, h1, h2, hP, hL⟩ := hR
  have e13 : I 38 13 = nI nu := hP.2.2.2.2.2.2.1
  have e49 : J 0 49 = nI nu := hP.2.2.2.2.2.2.2.2.2.1
  have e11 : I 38 11 = nI nl := hP.2.2.2.2.1
  have e39 : J 0 39 = nI nl := hP.2.2.2.2.2.2.2.1
  rw [B199_0_g38, B199_9_g38, B294_0, B294_9, e13, e49, e11, e39, h0]
  by_cases q1 : x < 0
  · exact ⟨-1, by rw [if_pos q1], by rw [if_pos q1]⟩
  by_cases q2 : (1 : Int32) < x
  · exact ⟨-1, by rw [if_neg q1, if_pos q2], by rw [if_neg q1, if_pos q2]⟩
  rw [if_neg q1, if_neg q2, if_neg q1, if_neg q2]
  by_cases q3 : J 0 18 = 0
  case neg => exact ⟨-3, by rw [if_neg q3], by rw [if_neg q3, B294_38]⟩
  rw [if_pos q3, if_pos q3]
  by_cases q4 : x = 0
  · exact ⟨nI nu, by rw [if_pos q4, B199_42_g38], by rw [if_pos q4, B294_38]⟩
  · exact ⟨nI nl, by rw [if_neg q4, B199_42_g38], by rw [if_neg q4, B294_38]⟩
/-- a rule, in both -/
theorem rule_49 (hd : 480 ≤ d) (he : 1300 ≤ e) (hD : k = true → seaD m o r ans b c) (hK : mK m I J) (kn : knW I J) (h1 : cH m k N o r ans b c I J L) (h2 : rH m k o r ans b c I J L') (hP : prB 49 nl nt nu np nc nr wl I J L') (hL : letK 49 nl wl m k o r ans b c I J L L') {u : Nat} (hu : u < nu) : ∃ (v s : Int32) (I1 I2 J2 : Nat → Nat → Int32) (L1 L2 L2' : Nat → Nat → Int64), jv (d + 1) 142 0 [some (.ref 116), some (.ref 49), none] [] (shC, I, L, pX pa pb pu pw) = some (none, (shC, I1, L1, pX pa pb pu (some 49))) ∧ jv (d + 1) 140 0 [some (.ref 116), some (.ref 49), some (.int (nI u)), none] [] (shC, I1, L1, pX pa pb pu (some 49)) = some (some (.int v), (shC, I2, L2, pX pa pb pu (some 49))) ∧ I2 116 8 = s ∧ jv (e + 1) 295 0 [some (.ref 0), some (.int (nI u)), none] [] (shR, J, L', pR) = some (some (.int v), (shR, J2, L2', pR)) ∧ (if J2 0 57 = 0 then J2 0 56 else 10001) = s ∧ mK m I2 J2 ∧ knW I2 J2 ∧ rulK 49 m N I2 J2 L2 L2' ∧ lsB I I2 L L2 ∧ frX J J2 L' L2' := by
  obtain ⟨I1, L1, a1, a2, a3, a4, a5⟩ := lets_49 (d := d) (pa := pa) (pb := pb) (pu := pu) (pw := pw) (by omega) hD hK h1 hP hL
  have f1 : ∀ x, x < 60 → I1 x = I x := fun x hx => a2.1 x (Or.inl hx) (by omega) (by omega)
  have hP1 : prB 49 nl nt nu np nc nr wl I1 J L' := hP.congr (fun x _ h2 => f1 x (by omega)) (fun _ _ => rfl) (fun _ _ _ => rfl) (fun _ _ => rfl)
  obtain ⟨b1, b2, b3, b4, b5, b6, b7, b8, b9, b10, b11, b12, b13, b14, b15⟩ := hP1
  obtain ⟨n, kk, mm, mt, w, c1, c2, c3, c4, c5, c6⟩ := b12 u hu
  have rl := c6 (fun c i => I1 (49 + 1 + c) i) (fun c i => J (21 + c) i) (L' 25) (fun _ _ _ _ _ => rfl) (fun _ _ _ _ _ => rfl) (fun _ _ _ => rfl)
  obtain ⟨p1, p2⟩ := b11.lt b14 (I := I1) (fun _ _ => rfl)
  have EC : envC 49 (wIx m k N o r ans b c J) I1 L1 nt (tqX 49 I) (wdX m k o r ans b c I) (woX m k o ans b c I) pa pb pu := envC_49 hD b2 hP.2.2.2.2.2.2.2.2.2.2.2.2.1 hK (fun x h1 h2 h3 => a2.1 x h1 h2 h3)
  have ER : envR (wJx m k o r ans b c I J L') J L' nl nt (lnR J) (tqX 49 I) (wdX m k o r ans b c I) (woX m k o ans b c I) := envR_49 hD b2 b4 hP.2.2.2.2.2.2.2.2.2.2.2.2.1 (fun i hi => by
    obtain ⟨n, mt, q1, q2, q3, -⟩ := b11.at (I := I1) (fun _ _ => rfl) i hi
    exact q3) hK
  obtain ⟨I2, L2, t, d1, d2, d3⟩ := judge_c49 (d := d) (by omega) EC b1 b11 b14 a5 (show u < 24 by omega) c4 c1 c2 c3 rl a4
  obtain ⟨J2, L2', t', e1, e2, e3⟩ := judge_r (C := fun c i => I1 (49 + 1 + c) i) (e := e) (by omega) ER b1 p1 p2 (show u < 24 by omega) c5 c1 c2 rl ⟨hK, kn, h2, frX.rfl'⟩
  obtain ⟨g1, g2, g3, g4, g5⟩ := rul_back (by decide) hD hP a2 a3 a5 d3 e3.2.2.2.2.2
  exact ⟨_, _, I1, I2, J2, L1, L2, L2', a1, d1, d2, e1, e2, g1, g2, g3, g4, g5⟩
/-- verdict(x) -/
theorem verdict_49 (hd : 480 ≤ d) (he : 1300 ≤ e) (hK : mK m I J) (kn : knW I J) (hR : rulK 49 m N I J L L') (h0 : I 0 11 = J 0 18) (x : Int32) : (∃ v, jv (d + 2) 200 0 [some (.ref 0), some (.int x)] [] (shC, I, L, pX (some 49) pb pu pw) = some (some (.int v), (shC, I, L, pX (some 49) pb pu pw)) ∧ jv (e + 2) 296 0 [some (.ref 0), some (.int x)] [] (shR, J, L', pR) = some (some (.int v), (shR, J, L', pR))) ∨ ∃ (v : Int32) (I2 J2 : Nat → Nat → Int32) (L2 L2' : Nat → Nat → Int64), mK m I2 J2 ∧ knW I2 J2 ∧ rulK 49 m N I2 J2 L2 L2' ∧ lsB I I2 L L2 ∧ frX J J2 L' L2' ∧ jv (d + 2) 200 0 [some (.ref 0), some (.int x)] [] (shC, I, L, pX (some 49) pb pu pw) = some (some (.int v), (shC, I2, L2, pX (some 49) pb pu (some 49))) ∧ jv (e + 2) 296 0 [some (.ref 0), some (.int x)] [] (shR, J, L', pR) = some (some (.int v), (shR, J2, L2', pR)) := by
  obtain ⟨k, o, r, ans, b, c, nl, nt, nu, np, nc, nr, wl, hD, h1, h2, hP, hL⟩ := hR
  have e13 : I 49 13 = nI nu := hP.2.2.2.2.2.2.1
  have e49 : J 0 49 = nI nu := hP.2.2.2.2.2.2.2.2.2.1
  have n24 : nu ≤ 24 := hP.2.2.1
  rw [B200_0_g49, B200_15_g49, B296_0, B296_12]
  by_cases q1 : x < 0
  · exact Or.inl ⟨-1, by rw [if_pos q1], by rw [if_pos q1]⟩
  rw [if_neg q1, if_neg q1, e13, e49]
  obtain ⟨u, u1, rfl⟩ := nI_of q1
  by_cases q2 : u < nu
  case neg => exact Or.inl ⟨-1, by rw [if_neg (nI_nlt (by omega) (by omega))], by rw [if_neg (nI_nlt (by omega) (by omega))]⟩
  rw [if_pos (nI_lt q2 (by omega)), if_pos (nI_lt q2 (by omega)), h0]
  by_cases q3 : J 0 18 = 0
  case neg => exact Or.inl ⟨-3, by rw [if_neg q3], by rw [if_neg q3, B296_31]⟩
  obtain ⟨v, s, I1, I2, J2, L1, L2, L2', r1, r2, -, r4, -, r6, r7, r8, r9, r10⟩ := rule_49 (pa := some 49) (pb := pb) (pu := pu) (pw := pw) hd he hD hK kn h1 h2 hP hL q2
  refine Or.inr ⟨v, I2, J2, L2, L2', r6, r7, r8, r9, r10, ?_, ?_⟩
  · rw [if_pos q3, jgo_some (d := d + 1) rfl r1]
    dsimp only [Option.toList_some, Option.toList_none, List.cons_append, List.nil_append]
    rw [B200_38_g49, jgo_some (d := d + 1) rfl r2]
    dsimp only [Option.toList_some, Option.toList_none, List.cons_append, List.nil_append]
    rw [B200_50_g49]
  · rw [if_pos q3, jgo_some (d := e + 1) rfl r4]
    dsimp only [Option.toList_some, Option.toList_none, List.cons_append, List.nil_append]
    rw [B296_31]
/-- steps(x) -/
theorem steps_49 (hd : 480 ≤ d) (he : 1300 ≤ e) (hK : mK m I J) (kn : knW I J) (hR : rulK 49 m N I J L L') (h0 : I 0 11 = J 0 18) (x : Int32) : (∃ v, jv (d + 2) 201 0 [some (.ref 0), some (.int x)] [] (shC, I, L, pX (some 49) pb pu pw) = some (some (.int v), (shC, I, L, pX (some 49) pb pu pw)) ∧ jv (e + 2) 297 0 [some (.ref 0), some (.int x)] [] (shR, J, L', pR) = some (some (.int v), (shR, J, L', pR))) ∨ ∃ (v : Int32) (I2 J2 : Nat → Nat → Int32) (L2 L2' : Nat → Nat → Int64), mK m I2 J2 ∧ knW I2 J2 ∧ rulK 49 m N I2 J2 L2 L2' ∧ lsB I I2 L L2 ∧ frX J J2 L' L2' ∧ jv (d + 2) 201 0 [some (.ref 0), some (.int x)] [] (shC, I, L, pX (some 49) pb pu pw) = some (some (.int v), (shC, I2, L2, pX (some 49) pb pu (some 49))) ∧ jv (e + 2) 297 0 [some (.ref 0), some (.int x)] [] (shR, J, L', pR) = some (some (.int v), (shR, J2, L2', pR)) := by
  obtain ⟨k, o, r, ans, b, c, nl, nt, nu, np, nc, nr, wl, hD, h1, h2, hP, hL⟩ := hR
  have e13 : I 49 13 = nI nu := hP.2.2.2.2.2.2.1
  have e49 : J 0 49 = nI nu := hP.2.2.2.2.2.2.2.2.2.1
  have n24 : nu ≤ 24 := hP.2.2.1
  rw [B201_0_g49, B201_15_g49, B297_0, B297_12]
  by_cases q1 : x < 0
  · exact Or.inl ⟨-1, by rw [if_pos q1], by rw [if_pos q1]⟩
  rw [if_neg q1, if_neg q1, e13, e49]
  obtain ⟨u, u1, rfl⟩ := nI_of q1
  by_cases q2 : u < nu
  case neg => exact Or.inl ⟨-1, by rw [if_neg (nI_nlt (by omega) (by omega))], by rw [if_neg (nI_nlt (by omega) (by omega))]⟩
  rw [if_pos (nI_lt q2 (by omega)), if_pos (nI_lt q2 (by omega)), h0]
  by_cases q3 : J 0 18 = 0
  case neg => exact Or.inl ⟨-3, by rw [if_neg q3], by rw [if_neg q3]⟩
  obtain ⟨v, s, I1, I2, J2, L1, L2, L2', r1, r2, r3, r4, r5, r6, r7, r8, r9, r10⟩ := rule_49 (pa := some 49) (pb := pb) (pu := pu) (pw := pw) hd he hD hK kn h1 h2 hP hL q2
  refine Or.inr ⟨s, I2, J2, L2, L2', r6, r7, r8, r9, r10, ?_, ?_⟩
  · rw [if_pos q3, jgo_some (d := d + 1) rfl r1]
    dsimp only [Option.toList_some, Option.toList_none, List.cons_append, List.nil_append]
    rw [B201_38_g49, jgo_some (d := d + 1) rfl r2]
    dsimp only [Option.toList_some, Option.toList_none, List.cons_append, List.nil_append]
    rw [B201_50_g49, r3]
  · rw [if_pos q3, jgo_some (d := e + 1) rfl r4]
    dsimp only [Option.toList_some, Option.toList_none, List.cons_append, List.nil_append]
    rw [B297_29]
    by_cases z : J2 0 57 = 0
    · rw [if_pos z] at r5 ⊢; rw [B297_47, r5]
    · rw [if_neg z] at r5 ⊢; rw [B297_47, r5]
/-- rules(x) -/
theorem rules_49 (hR : rulK 49 m N I J L L') (h0 : I 0 11 = J 0 18) (x : Int32) : ∃ v, jv d 199 0 [some (.ref 0), some (.int x)] [] (shC, I, L, pX (some 49) pb pu pw) = some (some (.int v), (shC, I, L, pX (some 49) pb pu pw)) ∧ jv e 294 0 [some (.ref 0), some (.int x)] [] (shR, J, L', pR) = some (some (.int v), (shR, J, L', pR)) := by
  obtain ⟨k, o, r, ans, b, c, nl, nt, nu, np, nc, nr, wl, hD, h1, h2, hP, hL⟩ := hR
  have e13 : I 49 13 = nI nu := hP.2.2.2.2.2.2.1
  have e49 : J 0 49 = nI nu := hP.2.2.2.2.2.2.2.2.2.1
  have e11 : I 49 11 = nI nl := hP.2.2.2.2.1
  have e39 : J 0 39 = nI nl := hP.2.2.2.2.2.2.2.1
  rw [B199_0_g49, B199_9_g49, B294_0, B294_9, e13, e49, e11, e39, h0]
  by_cases q1 : x < 0
  · exact ⟨-1, by rw [if_pos q1], by rw [if_pos q1]⟩
  by_cases q2 : (1 : Int32) < x
  · exact ⟨-1, by rw [if_neg q1, if_pos q2], by rw [if_neg q1, if_pos q2]⟩
  rw [if_neg q1, if_neg q2, if_neg q1, if_neg q2]
  by_cases q3 : J 0 18 = 0
  case neg => exact ⟨-3, by rw [if_neg q3], by rw [if_neg q3, B294_38]⟩
  rw [if_pos q3, if_pos q3]
  by_cases q4 : x = 0
  · exact ⟨nI nu, by rw [if_pos q4, B199_42_g49], by rw [if_pos q4, B294_38]⟩
  · exact ⟨nI nl, by rw [if_neg q4, B199_42_g49], by rw [if_neg q4, B294_38]⟩
end SECA
