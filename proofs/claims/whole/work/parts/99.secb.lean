/-! RULES: let(), both; arm() and sea() beside the rules -/
section SECB
variable {d e : Nat} {I J I0 J0 : Nat → Nat → Int32} {L L' Lr : Nat → Nat → Int64} {pa pb pu pw : Option Nat} {m : Nat → Int32} {k : Bool} {N o r nt np nl nu nc nr : Nat} {wl : Nat → Nat} {ans : Int32} {b c : Int}
/-- let(x, y) -/
theorem let_38 (hd : 480 ≤ d) (he : 1300 ≤ e) (hK : mK m I J) (kn : knW I J) (hR : rulK 38 m N I J L L') (h0 : I 0 11 = J 0 18) (x y : Int32) : (∃ v, jv (d + 2) 202 0 [some (.ref 0), some (.int x), some (.int y)] [] (shC, I, L, pX (some 38) pb pu pw) = some (some (.long v), (shC, I, L, pX (some 38) pb pu pw)) ∧ jv (e + 1) 298 0 [some (.ref 0), some (.int x), some (.int y)] [] (shR, J, L', pR) = some (some (.long v), (shR, J, L', pR))) ∨ ∃ (v : Int64) (I2 J2 : Nat → Nat → Int32) (L2 L2' : Nat → Nat → Int64), mK m I2 J2 ∧ knW I2 J2 ∧ rulK 38 m N I2 J2 L2 L2' ∧ lsB I I2 L L2 ∧ frX J J2 L' L2' ∧ jv (d + 2) 202 0 [some (.ref 0), some (.int x), some (.int y)] [] (shC, I, L, pX (some 38) pb pu pw) = some (some (.long v), (shC, I2, L2, pX (some 38) pb pu (some 38))) ∧ jv (e + 1) 298 0 [some (.ref 0), some (.int x), some (.int y)] [] (shR, J, L', pR) = some (some (.long v), (shR, J2, L2', pR)) := by
  obtain ⟨k, o, r, ans, b, c, nl, nt, nu, np, nc, nr, wl, hD, h1, h2, hP, hL⟩ := hR
  obtain ⟨b1, b2, b3, b4, b5, b6, b7, b8, b9, b10, b11, b12, b13, b14, b15⟩ := id hP
  by_cases q3 : J 0 18 = 0
  case neg =>
    refine Or.inl ⟨-9223372036854775808, by rw [B202_0_g38, h0, if_neg q3, B202_31_g38], ?_⟩
    rw [B298_0, if_neg q3, B298_28, ite_self, ite_self, ite_self, ite_self]
  have oC : jv (d + 2) 202 0 [some (.ref 0), some (.int x), some (.int y)] [] (shC, I, L, pX (some 38) pb pu pw) = if x < 0 then some (some (.long (-9223372036854775808)), (shC, I, L, pX (some 38) pb pu pw)) else if x < nI nl then if y < 0 then some (some (.long (-9223372036854775808)), (shC, I, L, pX (some 38) pb pu pw)) else if (1 : Int32) < y then some (some (.long (-9223372036854775808)), (shC, I, L, pX (some 38) pb pu pw)) else jgo jTT jMM (d + 2) 142 [.ref 116, .ref 38] (shC, I, L, pX (some 38) pb pu pw) (fun v S => jv (d + 2) 202 46 [some (.ref 0), some (.int x), some (.int y)] (v.toList ++ []) S) else some (some (.long (-9223372036854775808)), (shC, I, L, pX (some 38) pb pu pw)) := by
    rw [B202_0_g38, h0, if_pos q3, B202_31_g38, b5]
  rw [oC]
  by_cases q1 : x < 0
  · exact Or.inl ⟨-9223372036854775808, by rw [if_pos q1], by rw [B298_0, if_pos q1, B298_28]⟩
  obtain ⟨i, i1, rfl⟩ := nI_of q1
  by_cases q2 : i < nl
  case neg => exact Or.inl ⟨-9223372036854775808, by rw [if_neg q1, if_neg (nI_nlt (by omega) (by omega))], by rw [B298_0, if_neg q1, b8, if_neg (nI_nlt (by omega) (by omega)), B298_28]⟩
  have lt : nI i < nI nl := nI_lt q2 (by omega)
  by_cases q4 : y < 0
  · exact Or.inl ⟨-9223372036854775808, by rw [if_neg q1, if_pos lt, if_pos q4], by rw [B298_0, if_neg q1, b8, if_pos lt, if_pos q4, B298_28]⟩
  by_cases q5 : (1 : Int32) < y
  · exact Or.inl ⟨-9223372036854775808, by rw [if_neg q1, if_pos lt, if_neg q4, if_pos q5], by rw [B298_0, if_neg q1, b8, if_pos lt, if_neg q4, if_pos q5, B298_28]⟩
  obtain ⟨bb, hb⟩ : ∃ bb : Bool, y = if bb then 0 else 1 := by
    obtain ⟨j, j1, rfl⟩ := nI_of q4
    have j2 : j ≤ 1 := Nat.le_of_not_lt (fun z => q5 (nI_lt (a := 1) z (by omega)))
    rcases (show j = 0 ∨ j = 1 by omega) with z | z
    · exact ⟨true, by rw [z]; rfl⟩
    · exact ⟨false, by rw [z]; rfl⟩
  subst hb
  rw [if_neg q1, if_pos lt, if_neg q4, if_neg q5]
  obtain ⟨I1, L1, a1, a2, a3, a4, a5⟩ := lets_38 (d := d) (pa := some 38) (pb := pb) (pu := pu) (pw := pw) (by omega) hD hK h1 hP hL
  have f1 : ∀ x, x < 60 → I1 x = I x := fun x hx => a2.1 x (Or.inl hx) (by omega) (by omega)
  have hP1 : prB 38 nl nt nu np nc nr wl I1 J L' := hP.congr (fun x _ h2 => f1 x (by omega)) (fun _ _ => rfl) (fun _ _ _ => rfl) (fun _ _ => rfl)
  obtain ⟨p1, p2⟩ := hP1.2.2.2.2.2.2.2.2.2.2.1.lt b14 (I := I1) (fun _ _ => rfl)
  have ER : envR (wJx m k o r ans b c I J L') J L' nl nt (lnR J) (tqX 38 I) (wdX m k o r ans b c I) (woX m k o ans b c I) := envR_38 hD b2 b4 b13 (fun i hi => by
    obtain ⟨n, mt, q1, q2, q3, -⟩ := b11.at (I := I) (fun _ _ => rfl) i hi
    exact q3) hK
  have wle : wl (i + 1) ≤ 1200 := Nat.le_trans (b14 (i + 1) nl (by omega)) b15
  obtain ⟨J2, L2', t', e1, e3⟩ := letv_r (C := fun c i => I1 (38 + 1 + c) i) (e := e) (by omega) ER b1 p1 p2 q2 b8 q3 ⟨hK, kn, h2, frX.rfl'⟩ bb
  have cs0 : cSt (wIx m k N o r ans b c J) I1 L1 0 rho0 (fun _ => 0) 0 (j_up I1 116 8 (nI 0)) L1 := ⟨fun x _ h2 => by rw [j_up_cell _ h2], fun q hq => by rw [j_up_nq _ (Or.inr hq)], by rw [j_up_eq], fun _ _ _ _ => rfl, fun i hi => by omega, wIx_2 I1 L1 _ L1 a4 (fun x h1 _ => by rw [j_up_cell _ h1]) (fun _ _ _ _ _ => rfl)⟩
  -- the first one leaves its steps as they are
  have back : mK m I1 J2 ∧ knW I1 J2 ∧ rulK 38 m N I1 J2 L1 L2' ∧ lsB I I1 L L1 ∧ frX J J2 L' L2' := by
    obtain ⟨⟨n1, n2⟩, n3⟩ := (show wIx m k N o r ans b c J I1 L1 ∧ True from ⟨a4, trivial⟩)
    obtain ⟨g1, g2, g3, g4, g5⟩ := rul_back (by decide) hD hP a2 a3 a5 cs0 e3.2.2.2.2.2
    obtain ⟨k', o', r', ans', b', c', nl', nt', nu', np', nc', nr', wl', w1, w2, w3, w4, w5⟩ := g3
    have fx : ∀ x, x ≠ 116 → j_up I1 116 8 (nI 0) x = I1 x := fun x hx => by rw [j_up_cell _ hx]
    refine ⟨g1.fr (fx 2 (by decide)).symm, g2.toI (fun x _ h2 _ => (fx x h2).symm), ⟨k', o', r', ans', b', c', nl', nt', nu', np', nc', nr', wl', w1, w2.cg (fun x hx => (fx x (by omega)).symm) (fun _ _ _ => rfl), w3.toI (g1.fr (fx 2 (by decide)).symm).q, w4.congr (fun x _ h2 => (fx x (by omega)).symm) (fun _ _ => rfl) (fun _ _ _ => rfl) (fun _ _ => rfl), ?_⟩, a2, g5⟩
    rcases w5 with z | ⟨z, zl⟩
    · exact Or.inl (by rw [j_up_nq _ (Or.inr (by decide))] at z; exact z)
    · refine Or.inr ⟨by rw [j_up_nq _ (Or.inr (by decide))] at z; exact z, ?_⟩
      rw [tqX_cg (g := 38) (I := I1) (fun x _ h2 => fx x (by omega)), wdX_cg (I := I1) (fx 83 (by decide)) (fx 96 (by decide)) (fx 107 (by decide)), woX_cg (I := I1) (fx 96 (by decide)) (fx 107 (by decide)) (fx 97 (by decide)) (fx 110 (by decide)) (fx 111 (by decide))] at zl
      exact zl.mv (fx 120 (by decide)).symm rfl rfl
  obtain ⟨g1, g2, g3, g4, g5⟩ := back
  refine Or.inr ⟨_, I1, J2, L1, L2', g1, g2, g3, g4, g5, ?_, e1⟩
  rw [jgo_some (d := d + 1) rfl a1]
  dsimp only [Option.toList_some, Option.toList_none, List.cons_append, List.nil_append]
  rw [B202_46_g38, jgo_some (d := d + 1) rfl (letv_c (pa := some 38) (pb := pb) (pu := pu) (pw := some 38) a5 q2 bb)]
  dsimp only [Option.toList_some, Option.toList_none, List.cons_append, List.nil_append]
  rw [B202_55_g38]
/-- let(x, y) -/
theorem let_49 (hd : 480 ≤ d) (he : 1300 ≤ e) (hK : mK m I J) (kn : knW I J) (hR : rulK 49 m N I J L L') (h0 : I 0 11 = J 0 18) (x y : Int32) : (∃ v, jv (d + 2) 202 0 [some (.ref 0), some (.int x), some (.int y)] [] (shC, I, L, pX (some 49) pb pu pw) = some (some (.long v), (shC, I, L, pX (some 49) pb pu pw)) ∧ jv (e + 1) 298 0 [some (.ref 0), some (.int x), some (.int y)] [] (shR, J, L', pR) = some (some (.long v), (shR, J, L', pR))) ∨ ∃ (v : Int64) (I2 J2 : Nat → Nat → Int32) (L2 L2' : Nat → Nat → Int64), mK m I2 J2 ∧ knW I2 J2 ∧ rulK 49 m N I2 J2 L2 L2' ∧ lsB I I2 L L2 ∧ frX J J2 L' L2' ∧ jv (d + 2) 202 0 [some (.ref 0), some (.int x), some (.int y)] [] (shC, I, L, pX (some 49) pb pu pw) = some (some (.long v), (shC, I2, L2, pX (some 49) pb pu (some 49))) ∧ jv (e + 1) 298 0 [some (.ref 0), some (.int x), some (.int y)] [] (shR, J, L', pR) = some (some (.long v), (shR, J2, L2', pR)) := by
  obtain ⟨k, o, r, ans, b, c, nl, nt, nu, np, nc, nr, wl, hD, h1, h2, hP, hL⟩ := hR
  obtain ⟨b1, b2, b3, b4, b5, b6, b7, b8, b9, b10, b11, b12, b13, b14, b15⟩ := id hP
  by_cases q3 : J 0 18 = 0
  case neg =>
    refine Or.inl ⟨-9223372036854775808, by rw [B202_0_g49, h0, if_neg q3, B202_31_g49], ?_⟩
    rw [B298_0, if_neg q3, B298_28, ite_self, ite_self, ite_self, ite_self]
  have oC : jv (d + 2) 202 0 [some (.ref 0), some (.int x), some (.int y)] [] (shC, I, L, pX (some 49) pb pu pw) = if x < 0 then some (some (.long (-9223372036854775808)), (shC, I, L, pX (some 49) pb pu pw)) else if x < nI nl then if y < 0 then some (some (.long (-9223372036854775808)), (shC, I, L, pX (some 49) pb pu pw)) else if (1 : Int32) < y then some (some (.long (-9223372036854775808)), (shC, I, L, pX (some 49) pb pu pw)) else jgo jTT jMM (d + 2) 142 [.ref 116, .ref 49] (shC, I, L, pX (some 49) pb pu pw) (fun v S => jv (d + 2) 202 46 [some (.ref 0), some (.int x), some (.int y)] (v.toList ++ []) S) else some (some (.long (-9223372036854775808)), (shC, I, L, pX (some 49) pb pu pw)) := by
    rw [B202_0_g49, h0, if_pos q3, B202_31_g49, b5]
  rw [oC]
  by_cases q1 : x < 0
  · exact Or.inl ⟨-9223372036854775808, by rw [if_pos q1], by rw [B298_0, if_pos q1, B298_28]⟩
  obtain ⟨i, i1, rfl⟩ := nI_of q1
  by_cases q2 : i < nl
  case neg => exact Or.inl ⟨-9223372036854775808, by rw [if_neg q1, if_neg (nI_nlt (by omega) (by omega))], by rw [B298_0, if_neg q1, b8, if_neg (nI_nlt (by omega) (by omega)), B298_28]⟩
  have lt : nI i < nI nl := nI_lt q2 (by omega)
  by_cases q4 : y < 0
  · exact Or.inl ⟨-9223372036854775808, by rw [if_neg q1, if_pos lt, if_pos q4], by rw [B298_0, if_neg q1, b8, if_pos lt, if_pos q4, B298_28]⟩
  by_cases q5 : (1 : Int32) < y
  · exact Or.inl ⟨-9223372036854775808, by rw [if_neg q1, if_pos lt, if_neg q4, if_pos q5], by rw [B298_0, if_neg q1, b8, if_pos lt, if_neg q4, if_pos q5, B298_28]⟩
  obtain ⟨bb, hb⟩ : ∃ bb : Bool, y = if bb then 0 else 1 := by
    obtain ⟨j, j1, rfl⟩ := nI_of q4
    have j2 : j ≤ 1 := Nat.le_of_not_lt (fun z => q5 (nI_lt (a := 1) z (by omega)))
    rcases (show j = 0 ∨ j = 1 by omega) with z | z
    · exact ⟨true, by rw [z]; rfl⟩
    · exact ⟨false, by rw [z]; rfl⟩
  subst hb
  rw [if_neg q1, if_pos lt, if_neg q4, if_neg q5]
  obtain ⟨I1, L1, a1, a2, a3, a4, a5⟩ := lets_49 (d := d) (pa := some 49) (pb := pb) (pu := pu) (pw := pw) (by omega) hD hK h1 hP hL
  have f1 : ∀ x, x < 60 → I1 x = I x := fun x hx => a2.1 x (Or.inl hx) (by omega) (by omega)
  have hP1 : prB 49 nl nt nu np nc nr wl I1 J L' := hP.congr (fun x _ h2 => f1 x (by omega)) (fun _ _ => rfl) (fun _ _ _ => rfl) (fun _ _ => rfl)
  obtain ⟨p1, p2⟩ := hP1.2.2.2.2.2.2.2.2.2.2.1.lt b14 (I := I1) (fun _ _ => rfl)
  have ER : envR (wJx m k o r ans b c I J L') J L' nl nt (lnR J) (tqX 49 I) (wdX m k o r ans b c I) (woX m k o ans b c I) := envR_49 hD b2 b4 b13 (fun i hi => by
    obtain ⟨n, mt, q1, q2, q3, -⟩ := b11.at (I := I) (fun _ _ => rfl) i hi
    exact q3) hK
  have wle : wl (i + 1) ≤ 1200 := Nat.le_trans (b14 (i + 1) nl (by omega)) b15
  obtain ⟨J2, L2', t', e1, e3⟩ := letv_r (C := fun c i => I1 (49 + 1 + c) i) (e := e) (by omega) ER b1 p1 p2 q2 b8 q3 ⟨hK, kn, h2, frX.rfl'⟩ bb
  have cs0 : cSt (wIx m k N o r ans b c J) I1 L1 0 rho0 (fun _ => 0) 0 (j_up I1 116 8 (nI 0)) L1 := ⟨fun x _ h2 => by rw [j_up_cell _ h2], fun q hq => by rw [j_up_nq _ (Or.inr hq)], by rw [j_up_eq], fun _ _ _ _ => rfl, fun i hi => by omega, wIx_2 I1 L1 _ L1 a4 (fun x h1 _ => by rw [j_up_cell _ h1]) (fun _ _ _ _ _ => rfl)⟩
  -- the first one leaves its steps as they are
  have back : mK m I1 J2 ∧ knW I1 J2 ∧ rulK 49 m N I1 J2 L1 L2' ∧ lsB I I1 L L1 ∧ frX J J2 L' L2' := by
    obtain ⟨⟨n1, n2⟩, n3⟩ := (show wIx m k N o r ans b c J I1 L1 ∧ True from ⟨a4, trivial⟩)
    obtain ⟨g1, g2, g3, g4, g5⟩ := rul_back (by decide) hD hP a2 a3 a5 cs0 e3.2.2.2.2.2
    obtain ⟨k', o', r', ans', b', c', nl', nt', nu', np', nc', nr', wl', w1, w2, w3, w4, w5⟩ := g3
    have fx : ∀ x, x ≠ 116 → j_up I1 116 8 (nI 0) x = I1 x := fun x hx => by rw [j_up_cell _ hx]
    refine ⟨g1.fr (fx 2 (by decide)).symm, g2.toI (fun x _ h2 _ => (fx x h2).symm), ⟨k', o', r', ans', b', c', nl', nt', nu', np', nc', nr', wl', w1, w2.cg (fun x hx => (fx x (by omega)).symm) (fun _ _ _ => rfl), w3.toI (g1.fr (fx 2 (by decide)).symm).q, w4.congr (fun x _ h2 => (fx x (by omega)).symm) (fun _ _ => rfl) (fun _ _ _ => rfl) (fun _ _ => rfl), ?_⟩, a2, g5⟩
    rcases w5 with z | ⟨z, zl⟩
    · exact Or.inl (by rw [j_up_nq _ (Or.inr (by decide))] at z; exact z)
    · refine Or.inr ⟨by rw [j_up_nq _ (Or.inr (by decide))] at z; exact z, ?_⟩
      rw [tqX_cg (g := 49) (I := I1) (fun x _ h2 => fx x (by omega)), wdX_cg (I := I1) (fx 83 (by decide)) (fx 96 (by decide)) (fx 107 (by decide)), woX_cg (I := I1) (fx 96 (by decide)) (fx 107 (by decide)) (fx 97 (by decide)) (fx 110 (by decide)) (fx 111 (by decide))] at zl
      exact zl.mv (fx 120 (by decide)).symm rfl rfl
  obtain ⟨g1, g2, g3, g4, g5⟩ := back
  refine Or.inr ⟨_, I1, J2, L1, L2', g1, g2, g3, g4, g5, ?_, e1⟩
  rw [jgo_some (d := d + 1) rfl a1]
  dsimp only [Option.toList_some, Option.toList_none, List.cons_append, List.nil_append]
  rw [B202_46_g49, jgo_some (d := d + 1) rfl (letv_c (pa := some 49) (pb := pb) (pu := pu) (pw := some 49) a5 q2 bb)]
  dsimp only [Option.toList_some, Option.toList_none, List.cons_append, List.nil_append]
  rw [B202_55_g49]
/-- rules over a change of what they don't ask for -/
theorem rulK.reset {g : Nat} {I2 J2 : Nat → Nat → Int32} {L2 L2' : Nat → Nat → Int64} (h : rulK g m N I J L L') (hT : seaT m N I2 J2 L2 L2') (h0 : I2 116 10 = 0) (e1 : ∀ c, g ≤ c → c ≤ g + 10 → I2 c = I c) (e2 : ∀ q, q = 39 ∨ q = 46 ∨ q = 49 → J2 0 q = J 0 q) (e3 : ∀ c, 21 ≤ c → c ≤ 34 → J2 c = J c) (e4 : ∀ c, c = 25 ∨ c = 31 ∨ c = 32 → L2' c = L' c) : rulK g m N I2 J2 L2 L2' := by
  obtain ⟨k, o, r, ans, b, c, nl, nt, nu, np, nc, nr, wl, h1, h2, h3, hP, -⟩ := h
  obtain ⟨k', o', r', ans', b', c', w1, w2, w3⟩ := sea_split hT
  exact ⟨k', o', r', ans', b', c', nl, nt, nu, np, nc, nr, wl, w1, w2, w3, hP.congr e1 e2 e3 e4, Or.inl h0⟩
theorem rulK.mk' {g : Nat} (hT : seaT m N I J L L') (hP : prG g I J L') (h0 : I 116 10 = 0) : rulK g m N I J L L' := by
  obtain ⟨k', o', r', ans', b', c', w1, w2, w3⟩ := sea_split hT
  obtain ⟨nl, nt, nu, np, nc, nr, wl, h⟩ := hP
  exact ⟨k', o', r', ans', b', c', nl, nt, nu, np, nc, nr, wl, w1, w2, w3, h, Or.inl h0⟩
end SECB
