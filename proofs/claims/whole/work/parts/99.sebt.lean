/-! SEA: arm() and along(), both -/
section SEBT
variable {d e : Nat} {I J : Nat → Nat → Int32} {L L' : Nat → Nat → Int64} {pa pb pu pw : Option Nat} {m : Nat → Int32}
/-- levers and balances between calls -/
theorem seaT.lev {N o : Nat} {c b : Int} {I1 J1 : Nat → Nat → Int32} {L1 L1' : Nat → Nat → Int64} (hT : seaT m N I J L L') (k2 : I 60 2 = 1) (j60 : J 0 60 = 0) (h3 : seaC m o I J L) (h5 : rfS m o I J L') (hr : restP m o b c I J L L') (f : leF I I1 L L1) (fm : memK m o I1 L1) (ft : turK N I1) (g : frB J J1 L' L1') : seaT m N I1 J1 L1 L1' := by
  obtain ⟨-, -, ⟨n1, n2, n3⟩, ⟨n4, n5⟩, hk⟩ := hT
  obtain ⟨f1, f2, f3, f4⟩ := id f
  obtain ⟨g1, g2, g3, g4⟩ := id g
  have fI : ∀ c, (c < 69 ∨ 71 < c) → c ≠ 82 → I1 c = I c := fun c h1 h2 => f1 c (by omega) (by omega) h2
  refine ⟨f2, ft, by rw [fI 75 (by decide) (by decide), fI 77 (by decide) (by decide), fI 79 (by decide) (by decide)]; exact ⟨n1, n2, n3⟩, by rw [g3 40 (by decide), g3 41 (by decide)]; exact ⟨n4, n5⟩, Or.inr ?_⟩
  rcases hk with ⟨z1, -⟩ | ⟨z1, z2, o', r, ans, y1, y2, y3, y4, y5, y6, y7, y8⟩
  · rw [z1] at k2; exact absurd k2 (by decide)
  -- the set of open spaces is one
  have oo : o' = o := by
    have a := y5.2.2.2.1
    rw [h5.2.2.2.1] at a
    exact ((nI_eq (by have := h3.1.2.2.2; omega) (by omega)).mp a).symm
  subst oo
  have hS := h3.frl f
  have hR := h5.fr g
  have q1 : mQ m I1 J1 := hS.1.1.frR (fun c c1 _ => g1 c c1)
  have l61 : L1 61 = L 61 := f3 61 (by decide) (by decide) (by decide) (by decide)
  refine ⟨by rw [fI 60 (by decide) (by decide)]; exact z1, by rw [g2 59 (by decide)]; exact z2, o', r, ans, y1, y2, hS.toJ q1, fm, hR.toI q1, by rw [l61]; exact y6, ⟨by rw [g2 60 (by decide)]; exact y7.1, by rw [g2 61 (by decide)]; exact y7.2.1, by rw [g4 64 (by decide)]; exact y7.2.2⟩, ?_⟩
  obtain ⟨p1, p2, p3, p4, p5, p6, p7, p8, p9, p10, p11⟩ := hr
  refine Or.inr (Or.inr ⟨by rw [← y7.1]; exact j60, c, b, p1, p2, p3, ?_, fun p hp hl => by rw [fI 67 (by decide) (by decide)]; exact p5 p hp hl, by rw [g2 66 (by decide), g2 67 (by decide), g2 68 (by decide)]; exact p6, by rw [g4 65 (by decide), g3 38 (by decide)]; exact p7, fun s hs => by rw [f3 68 (by decide) (by decide) (by decide) (by decide), g3 39 (by decide)]; exact p8 s hs, fun i hi => by rw [g1 42 (by decide)]; exact p9 i hi, fun p hp hl => by rw [g1 43 (by decide)]; exact p10 p hp hl, fun k hk => by rw [g3 40 (by decide), g3 41 (by decide)]; exact p11 k hk⟩)
  unfold tdP
  rw [l61]; exact p4
/-- arm(x) -/
theorem arm_call {N : Nat} (hT : seaT m N I J L L') (h0 : I 0 11 = J 0 18) (x : Int32) : (∃ v : Int64, jv (d + 4) 197 0 [some (.ref 0), some (.int x)] [] (shC, I, L, pX pa pb pu pw) = some (some (.long v), (shC, I, L, pX pa pb pu pw)) ∧ jv (e + 9) 327 0 [some (.ref 0), some (.int x), none] [] (shR, J, L', pR) = some (some (.long v), (shR, J, L', pR))) ∨ ∃ (v : Int64) (I1 J1 : Nat → Nat → Int32) (L1 L1' : Nat → Nat → Int64), seaT m N I1 J1 L1 L1' ∧ leF I I1 L L1 ∧ frB J J1 L' L1' ∧ jv (d + 4) 197 0 [some (.ref 0), some (.int x)] [] (shC, I, L, pX pa pb pu pw) = some (some (.long v), (shC, I1, L1, pX pa pb pu pw)) ∧ jv (e + 9) 327 0 [some (.ref 0), some (.int x), none] [] (shR, J, L', pR) = some (some (.long v), (shR, J1, L1', pR)) := by
  obtain ⟨b, hb, r1, r2⟩ := rests_b (d := d + 3) (e := e + 8) (pa := pa) (pb := pb) (pu := pu) (pw := pw) hT
  have none_ : ∀ {P : Prop}, P → P := fun h => h
  rw [B197_0, h0, B327_0]
  by_cases q3 : J 0 18 = 0
  case neg =>
    refine Or.inl ⟨-9223372036854775808, by rw [if_neg q3, B197_31], ?_⟩
    rw [if_neg q3, B327_28, ite_self, ite_self]
  rw [if_pos q3, jgo_some (d := d + 3) rfl r1, if_pos q3, jgo_some (d := e + 8) rfl r2]
  dsimp only [Option.toList_some, Option.toList_none, List.cons_append, List.nil_append]
  rw [B197_14, B327_25, B197_31, B327_28]
  rcases hb with ⟨rfl, -⟩ | ⟨rfl, k2, -, j60, o, c', b', o16, h3, h4, h5, hr⟩
  · refine Or.inl ⟨-9223372036854775808, by rw [if_pos rfl], ?_⟩
    rw [if_pos rfl, ite_self, ite_self]
  rw [if_neg (show ¬ (1 : Int32) = 0 by decide), if_neg (show ¬ (1 : Int32) = 0 by decide)]
  by_cases q1 : x < -2048
  · exact Or.inl ⟨-9223372036854775808, by rw [if_pos q1], by rw [if_pos q1]⟩
  by_cases q2 : (2048 : Int32) < x
  · exact Or.inl ⟨-9223372036854775808, by rw [if_neg q1, if_pos q2], by rw [if_neg q1, if_pos q2]⟩
  rw [if_neg q1, if_neg q2, if_neg q1, if_neg q2]
  obtain ⟨c, hx, hc⟩ : ∃ c : Int, x = vI c ∧ (-2048 ≤ c ∧ c ≤ 2048) := by
    refine ⟨x.toInt, (Int32.ofInt_toInt x).symm, ?_⟩
    rw [Int32.lt_iff_toInt_lt] at q1 q2
    have e1 : (-2048 : Int32).toInt = -2048 := by decide
    have e2 : (2048 : Int32).toInt = 2048 := by decide
    omega
  subst hx
  obtain ⟨I1, L1, f1, f2, f3, -, f5⟩ := lever_c (d := d) (pa := pa) (pb := pb) (pu := pu) (pw := pw) h3 h4 hT.2.1 hc
  obtain ⟨J1, L1', g1, g2⟩ := trim_r (e := e) h5 hc
  rw [jgo_some (d := d + 3) rfl f5, jgo_some (d := e + 8) rfl g2]
  dsimp only [Option.toList_some, Option.toList_none, List.cons_append, List.nil_append]
  rw [B197_43, B327_37]
  unfold lvV
  cases ht : tR m o c with
  | none => exact Or.inr ⟨_, I1, J1, L1, L1', hT.lev k2 j60 h3 h5 hr f1 f2 f3 g1, f1, g1, rfl, by dsimp only; rw [if_pos rfl]⟩
  | some bb =>
    have hb := tR_b ht
    obtain ⟨J2, L2', w1, w2, w3⟩ := balance_r (e := e + 2) (h5.fr g1) (b := bb) (c := c) (by omega) hc
    refine Or.inr ⟨_, I1, J2, L1, L2', hT.lev k2 j60 h3 h5 hr f1 f2 f3 (g1.trans w1), f1, g1.trans w1, rfl, ?_⟩
    dsimp only
    rw [if_neg (show ¬ vI bb = 99999 from fun y => by
      have := congrArg Int32.toInt y
      rw [vI_i (by omega) (by omega)] at this
      have e9 : (99999 : Int32).toInt = 99999 := by decide
      omega), jgo_some (d := e + 8) rfl w3]
    dsimp only [Option.toList_some, Option.toList_none, List.cons_append, List.nil_append]
    rw [B327_55, jgo_some (d := e + 8) rfl (across_r (e := e + 7) ((h5.fr g1).fr w1).1 w2 hc)]
    dsimp only [Option.toList_some, Option.toList_none, List.cons_append, List.nil_append]
    rw [B327_60]
/-- forces and bends, first one -/
theorem ship_c {o : Nat} {A b c : Int} (h68 : ∀ s, s < 16 → L 68 s = lI (lD m o A b c s)) {l1 : Int32} (h1 : l1 = 1 ∨ l1 = 2) {k : Nat} (hk : k ≤ 16) : jv d 101 0 [some (.ref 60), some (.int l1), some (.int (nI k)), none, none, none, none, none] [] (shC, I, L, pX pa pb pu pw) = some (some (.long (if l1 = 1 then lI (fOr m o A b c k) else lI (bEn m o A b c k))), (shC, I, L, pX pa pb pu pw)) := by
  have loop : ∀ (r i : Nat), i + r = k → jv d 101 36 [some (.ref 60), some (.int l1), some (.int (nI k)), some (.long (lI (fOr m o A b c i))), none, some (.long (lI (bEn m o A b c i))), none, some (.int (nI i))] [] (shC, I, L, pX pa pb pu pw) = jv d 101 86 [some (.ref 60), some (.int l1), some (.int (nI k)), some (.long (lI (fOr m o A b c k))), none, some (.long (lI (bEn m o A b c k))), none, some (.int (nI k))] [] (shC, I, L, pX pa pb pu pw) := by
    intro r
    induction r with
    | zero =>
      intro i hi
      have : i = k := by omega
      subst this
      rw [B101_36, if_neg (nI_nlt (Nat.le_refl _) (by omega))]
    | succ r ih =>
      intro i hi
      have ji : j_in (nI i) 16 = true := j_in_nI (by omega) (by decide)
      have ef : fOr m o A b c (i + 1) = fOr m o A b c i + lD m o A b c i := by show sZ _ 0 i + lD m o A b c (0 + i) = _; rw [Nat.zero_add]; rfl
      have eb : bEn m o A b c (i + 1) = bEn m o A b c i + (2 * fOr m o A b c i + lD m o A b c i) := by
        show bEn m o A b c i + fOr m o A b c i + fOr m o A b c (i + 1) = _
        rw [ef]; omega
      rw [B101_36, if_pos (nI_lt (by omega) (by omega)), if_pos (show nI i < 16 from nI_lt (b := 16) (by omega) (by decide)), if_pos ji, if_pos ji, nI_clamp (by omega), h68 i (by omega), show (2 : Int64) = lI 2 from rfl, lI_mul, lI_add, lI_add, lI_add, nI_1, ← ef, ← eb]
      exact ih (i + 1) (by omega)
  have n0 : ¬ l1 = 0 := by rcases h1 with z | z <;> (rw [z]; decide)
  rw [B101_0, if_neg n0, show (0 : Int64) = lI (fOr m o A b c 0) from rfl, show (0 : Int32) = nI 0 from rfl]
  refine Eq.trans (loop k 0 (by omega)) ?_
  rw [B101_86]
  by_cases z : l1 = 1
  · rw [if_pos z, if_pos z, B101_97]
  · rw [if_neg z, if_neg z, B101_97]
/-- along(x, y) -/
theorem along_ask {N : Nat} (h : mK m I J) (hT : seaT m N I J L L') (h0 : I 0 11 = J 0 18) (x y : Int32) : ∃ v : Int64, jv (d + 2) 198 0 [some (.ref 0), some (.int x), some (.int y)] [] (shC, I, L, pX pa pb pu pw) = some (some (.long v), (shC, I, L, pX pa pb pu pw)) ∧ jv (e + 2) 328 0 [some (.ref 0), some (.int x), some (.int y)] [] (shR, J, L', pR) = some (some (.long v), (shR, J, L', pR)) := by
  rw [B198_0, h0, B198_41, B328_0, B328_53]
  by_cases q3 : J 0 18 = 0
  case neg => exact ⟨_, by rw [if_neg q3], by rw [if_neg q3]⟩
  rw [if_pos q3, if_pos q3]
  by_cases q1 : x < 0
  · exact ⟨_, by rw [if_pos q1], by rw [if_pos q1]⟩
  by_cases q2 : (5 : Int32) < x
  · exact ⟨_, by rw [if_neg q1, if_pos q2], by rw [if_neg q1, if_pos q2]⟩
  by_cases q4 : y < 0
  · exact ⟨_, by rw [if_neg q1, if_neg q2, if_pos q4], by rw [if_neg q1, if_neg q2, if_pos q4]⟩
  rw [if_neg q1, if_neg q2, if_neg q4, if_neg q1, if_neg q2, if_neg q4]
  obtain ⟨w, w1, rfl⟩ := nI_of q1
  have w5 : w ≤ 5 := Nat.le_of_not_lt (fun y => q2 (nI_lt (a := 5) y (by omega)))
  obtain ⟨k, k1, rfl⟩ := nI_of q4
  obtain ⟨b, hb, r1, r2⟩ := rests_b (d := d + 1) (e := e + 1) (pa := pa) (pb := pb) (pu := pu) (pw := pw) hT
  -- a force or a bend
  have mid : ∀ t : Int32, t = 1 ∨ t = 2 → ∃ v : Int64, jv (d + 2) 198 31 [some (.ref 0), some (.int t), some (.int (nI k))] [.int (nI k)] (shC, I, L, pX pa pb pu pw) = some (some (.long v), (shC, I, L, pX pa pb pu pw)) ∧ jv (e + 2) 328 31 [some (.ref 0), some (.int t), some (.int (nI k))] [.int (nI k)] (shR, J, L', pR) = some (some (.long v), (shR, J, L', pR)) := by
    intro t ht
    rw [B198_31, B198_38, B198_41, B328_31, B328_38, B328_53]
    by_cases z : 16 < k
    · exact ⟨_, by rw [if_pos (show (16 : Int32) < nI k from nI_lt (a := 16) z (by omega))], by rw [if_pos (show (16 : Int32) < nI k from nI_lt (a := 16) z (by omega))]⟩
    have nz : ¬ (16 : Int32) < nI k := nI_nlt (a := 16) (by omega) (by decide)
    rw [if_neg nz, if_neg nz, if_neg (show ¬ (2 : Int32) < t by rcases ht with u | u <;> (rw [u]; decide)), if_pos (show t < 3 by rcases ht with u | u <;> (rw [u]; decide)), jgo_some (d := d + 1) rfl r1, jgo_some (d := e + 1) rfl r2]
    dsimp only [Option.toList_some, Option.toList_none, List.cons_append, List.nil_append]
    rw [B198_69, B328_50]
    rcases hb with ⟨rfl, -⟩ | ⟨rfl, -, -, -, o, c, b', -, -, -, -, hr⟩
    · exact ⟨_, by rw [if_pos rfl, B198_87], by rw [if_pos rfl, B328_53]⟩
    obtain ⟨-, -, -, -, -, -, -, p8, -, -, p11⟩ := hr
    rw [if_neg (show ¬ (1 : Int32) = 0 by decide), if_neg (show ¬ (1 : Int32) = 0 by decide), jgo_some (d := d + 1) rfl (ship_c (fun s hs => (p8 s hs).1) ht (show k ≤ 16 by omega))]
    dsimp only [Option.toList_some, Option.toList_none, List.cons_append, List.nil_append]
    rw [B198_81, B198_87, B328_57]
    have jk : j_in (nI k) 17 = true := j_in_nI (by omega) (by decide)
    rcases ht with u | u
    · subst u
      exact ⟨_, rfl, by rw [if_neg (by decide), if_pos rfl, if_pos jk, nI_clamp (by omega), B328_106, (p11 k (by omega)).1, if_pos rfl]⟩
    · subst u
      exact ⟨_, rfl, by rw [if_neg (by decide), if_neg (by decide), if_pos rfl, if_pos jk, nI_clamp (by omega), B328_106, (p11 k (by omega)).2, if_neg (by decide)]⟩
  -- a load or steel
  have nid : ∀ t : Nat, t ≤ 5 → t ≠ 1 → t ≠ 2 → ∃ v : Int64, jv (d + 2) 198 38 [some (.ref 0), some (.int (nI t)), some (.int (nI k))] [.int 15, .int (nI k)] (shC, I, L, pX pa pb pu pw) = some (some (.long v), (shC, I, L, pX pa pb pu pw)) ∧ jv (e + 2) 328 38 [some (.ref 0), some (.int (nI t)), some (.int (nI k))] [.int 15, .int (nI k)] (shR, J, L', pR) = some (some (.long v), (shR, J, L', pR)) := by
    intro t t5 t1 t2
    rw [B198_38, B198_41, B328_38, B328_53]
    by_cases z : 15 < k
    · exact ⟨_, by rw [if_pos (show (15 : Int32) < nI k from nI_lt (a := 15) z (by omega))], by rw [if_pos (show (15 : Int32) < nI k from nI_lt (a := 15) z (by omega))]⟩
    have nz : ¬ (15 : Int32) < nI k := nI_nlt (a := 15) (by omega) (by decide)
    rw [if_neg nz, if_neg nz]
    have jk : j_in (nI k) 16 = true := j_in_nI (by omega) (by decide)
    by_cases t0 : t = 0
    · subst t0
      rw [if_neg (show ¬ (2 : Int32) < nI 0 by decide), if_pos (show nI 0 < 3 by decide), jgo_some (d := d + 1) rfl r1, jgo_some (d := e + 1) rfl r2]
      dsimp only [Option.toList_some, Option.toList_none, List.cons_append, List.nil_append]
      rw [B198_69, B328_50]
      rcases hb with ⟨rfl, -⟩ | ⟨rfl, -, -, -, o, c, b', -, -, -, -, hr⟩
      · exact ⟨_, by rw [if_pos rfl, B198_87], by rw [if_pos rfl, B328_53]⟩
      obtain ⟨-, -, -, -, -, -, -, p8, -, -, p11⟩ := hr
      have ld : jv (d + 1) 101 0 [some (.ref 60), some (.int (nI 0)), some (.int (nI k)), none, none, none, none, none] [] (shC, I, L, pX pa pb pu pw) = some (some (.long (L 68 k)), (shC, I, L, pX pa pb pu pw)) := by
        rw [B101_0, if_pos (show nI 0 = 0 from rfl), if_neg (nI_pos (by omega)), if_pos (show nI k < 16 from nI_lt (b := 16) (by omega) (by decide)), if_pos jk, nI_clamp (by omega), B101_27]
      rw [if_neg (show ¬ (1 : Int32) = 0 by decide), if_neg (show ¬ (1 : Int32) = 0 by decide), jgo_some (d := d + 1) rfl ld]
      dsimp only [Option.toList_some, Option.toList_none, List.cons_append, List.nil_append]
      rw [B198_81, B198_87, B328_57]
      exact ⟨_, rfl, by rw [if_pos (show nI 0 = 0 from rfl), if_pos jk, nI_clamp (by omega), B328_106, (p8 k (by omega)).1, (p8 k (by omega)).2]⟩
    · have t3 : 3 ≤ t := by omega
      have es : nI t - 3 = nI (t - 3) := nI_sub (b := 3) t3
      rw [if_pos (show (2 : Int32) < nI t from nI_lt (a := 2) (by omega) (by omega)), if_neg (show ¬ nI t < 3 from nI_nlt (b := 3) t3 (by omega)), B328_57, if_neg (show ¬ nI t = 0 from fun y => t0 ((nI_eq (b := 0) (by omega) (by decide)).mp y)), if_neg (show ¬ nI t = 1 from fun y => t1 ((nI_eq (b := 1) (by omega) (by decide)).mp y)), if_neg (show ¬ nI t = 2 from fun y => t2 ((nI_eq (b := 2) (by omega) (by decide)).mp y)), es, jgo_some (d := d + 1) rfl (steel_c h (nI k) (what := t - 3) (by omega)), jgo_some (d := e + 1) rfl (steel_r h (nI k) (what := t - 3) (by omega))]
      dsimp only [Option.toList_some, Option.toList_none, List.cons_append, List.nil_append]
      rw [B198_61, B328_106]
      exact ⟨_, rfl, rfl⟩
  by_cases z1 : nI w = 1
  · rw [if_pos z1, if_pos z1]; exact mid _ (Or.inl z1)
  rw [if_neg z1, if_neg z1]
  by_cases z2 : nI w = 2
  · rw [if_pos z2, if_pos z2]; exact mid _ (Or.inr z2)
  rw [if_neg z2, if_neg z2]
  exact nid w w5 (fun y => z1 (by rw [y]; rfl)) (fun y => z2 (by rw [y]; rfl))
end SEBT
