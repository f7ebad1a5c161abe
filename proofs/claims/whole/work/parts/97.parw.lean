/-! RULES: a table's points -/
section PARW
variable {T : Nat} {K P : Nat → Nat} {W : Nat → List Nat} {U : Nat → Nat} {Q : Nat} {nm : Nat → List Nat} {kd nb : Nat → Nat} {nl nt nu s : Nat} {cw : Nat → List Nat} {rho : Nat → Nat} {lam : Nat} {pa pb pw : Option Nat}
def tbP (g T nt np : Nat) (I J : Nat → Nat → Int32) (L' : Nat → Nat → Int64) (j now1 : Nat) (I1 J1 : Nat → Nat → Int32) (L1' : Nat → Nat → Int64) : Prop :=
  tbX g T nt np I J L' now1 I1 J1 L1' ∧ I1 (g + 10) nt = nI j ∧ J1 0 45 = nI (np + j) ∧ J1 29 nt = nI np ∧ (∀ i, i < j → ptE (I1 (g + 8) (12 * nt + i)) (L1' 31 (np + i)) ∧ ptE (I1 (g + 9) (12 * nt + i)) (L1' 32 (np + i))) ∧ (∀ i, i + 1 < j → (L1' 31 (np + i)).toInt < (L1' 31 (np + i + 1)).toInt)
/-- behind a fault -/
theorem pt92_rf {e m : Nat} {J : Nat → Nat → Int32} {L' : Nat → Nat → Int64} (h0 : J 0 29 ≠ 0) (h28 : J 0 28 = nI m) (hm : m ≤ 1200) (l1 l2 l3 : Int32) (l4 : Int64) (o6 o7 : Option Value) : jv (e + 2) 264 81 [some (.ref 0), some (.int l1), some (.int l2), some (.int l3), some (.long l4), none, o6, o7] [] (shR, J, L', pR) = some (none, (shR, J, L', pR)) := by
  rw [B264_81, jgo_some (d := e + 1) rfl (want_rf h0 _)]
  dsimp only [Option.toList_some, Option.toList_none, List.cons_append, List.nil_append]
  rw [B264_87, jgo_some (d := e + 1) rfl (sgn_rf h0 h28 hm)]
  dsimp only [Option.toList_some, Option.toList_none, List.cons_append, List.nil_append]
  rw [B264_92, if_neg h0]
theorem pt92_cf38 {d : Nat} {I : Nat → Nat → Int32} {L : Nat → Nat → Int64} (h0 : I 27 0 ≠ 0) (l1 l2 l3 l4 : Int32) (o5 : Option Value) : jv (d + 3) 16 92 [some (.ref 27), some (.int l1), some (.int l2), some (.int l3), some (.int l4), o5] [] (shC, I, L, pX pa pb (some 38) pw) = some (none, (shC, I, L, pX pa pb (some 38) pw)) := by
  rw [B16_92_g38, jgo_some (d := d + 2) rfl (expect_cf (d := d + 1) h0 _)]
  dsimp only [Option.toList_some, Option.toList_none, List.cons_append, List.nil_append]
  rw [B16_98_g38, jgo_some (d := d + 2) rfl (sgn_cf h0)]
  dsimp only [Option.toList_some, Option.toList_none, List.cons_append, List.nil_append]
  rw [B16_103_g38, if_neg h0, B16_153_g38]
theorem point_sim38 {d e j np now1 : Nat} {I J I1 J1 : Nat → Nat → Int32} {L L' L1' : Nat → Nat → Int64} (tk : tkS T K P W U I L J L') (hnt : nt < 8) (hnp : np ≤ 12 * nt) (hg12 : I 38 12 = nI nt) (hj : j ≤ 12) (h : tbP 38 T nt np I J L' j now1 I1 J1 L1') (o3 o4 o5 o6 o7 : Option Value) :
    (∃ now2 I2 J2 L2' l3 l4 l6, now1 < now2 ∧ j < 12 ∧ jv (d + 3) 16 0 [some (.ref 27), none, none, none, none, none] [] (shC, I1, L, pX pa pb (some 38) pw) = some (none, (shC, I2, L, pX pa pb (some 38) pw)) ∧ jv (e + 3) 264 4 [some (.ref 0), some (.int (nI j)), some (.int 1), o3, o4, o5, o6, o7] [] (shR, J1, L1', pR) = jv (e + 3) 264 143 [some (.ref 0), some (.int (nI (j + 1))), some (.int 1), some (.int l3), some (.long l4), none, some (.long l6), none] [.int (if K now2 = 44 then 1 else 0)] (shR, J2, L2', pR) ∧ tbP 38 T nt np I J L' (j + 1) now2 I2 J2 L2') ∨
    (∃ I2 J2, jv (d + 3) 16 0 [some (.ref 27), none, none, none, none, none] [] (shC, I1, L, pX pa pb (some 38) pw) = some (none, (shC, I2, L, pX pa pb (some 38) pw)) ∧ jv (e + 3) 264 4 [some (.ref 0), some (.int (nI j)), some (.int 1), o3, o4, o5, o6, o7] [] (shR, J1, L1', pR) = some (none, (shR, J2, L1', pR)) ∧ tbB 38 T I J L L' I2 J2 L1') := by
  have hg : 38 = 38 ∨ 38 = 49 := by decide
  have hT := tk.1
  obtain ⟨h1, p10, p45, p29, pp, pi⟩ := h
  have tk1 := h1.tk hg tk
  obtain ⟨f, a1, a2, a3, a4, a5⟩ := id h1
  have tq := tk1.2.2.2.1 now1 a1
  have i12 : I1 38 12 = nI nt := by rw [f.2.2.2.2.1]; exact hg12
  have i10 : I1 48 nt = nI j := p10
  rw [B16_0_g38, i12, if_pos (j_in_nI hnt (by decide)), nI_clamp (by omega), i10, B264_4, if_neg (show ¬ (1 : Int32) = 0 by decide), if_pos a4, a5, if_pos (j_in_nI (by omega) (by decide)), nI_clamp (by omega), tq.2.2.2.1, a3]
  by_cases q12 : j = 12
  · have n12 : nI j = 12 := by rw [q12]; rfl
    rw [if_neg (show ¬ nI j < (12 : Int32) by rw [n12]; decide), if_pos n12, show (5 : Int32) = nI 5 from rfl, jgo_some (d := d + 2) rfl (fail_c tk1 a1 a2 5), jgo_some (d := e + 2) rfl (fails_rk a4 5 (P now1))]
    dsimp only [Option.toList_some, Option.toList_none, List.cons_append, List.nil_append]
    rw [B16_31_g38, B264_37]
    exact Or.inr ⟨_, _, rfl, rfl, h1.fl hg (by decide)⟩
  have j12 : j < 12 := by omega
  rw [if_pos (show nI j < (12 : Int32) from nI_lt (b := 12) j12 (by decide)), if_neg (show ¬ nI j = (12 : Int32) from fun z => q12 ((nI_eq (b := 12) (by omega) (by decide)).mp z)), show nI nt * 12 + nI j = nI (12 * nt + j) by rw [show nI nt * 12 = nI (nt * 12) from nI_mul nt 12, nI_add, Nat.mul_comm]]
  rcases h1.sgn (d := d) (e := e) (pa := pa) (pb := pb) (pu := some 38) (pw := pw) hg tk with ⟨x, y, now2, I2, J2, lt2, pe, ec, er, h2, fi2, fj2, f45⟩ | ⟨x, y, I2, J2, ec, er, hb⟩
  case inr =>
    obtain ⟨m, m1, m2, _⟩ := hb.2.2
    refine Or.inr ⟨I2, J2, ?_, ?_, hb⟩
    · rw [jgo_some (d := d + 2) rfl ec]
      dsimp only [Option.toList_some, Option.toList_none, List.cons_append, List.nil_append]
      rw [B16_55_g38, if_neg hb.2.1.f.1, pt92_cf38 (d := d) hb.2.1.f.1]
    · rw [jgo_some (d := e + 2) rfl er]
      dsimp only [Option.toList_some, Option.toList_none, List.cons_append, List.nil_append]
      rw [B264_43, if_neg hb.2.1.f.2, pt92_rf (e := e + 1) hb.2.1.f.2 m2 (by omega)]
  rw [jgo_some (d := d + 2) rfl ec, jgo_some (d := e + 2) rfl er]
  dsimp only [Option.toList_some, Option.toList_none, List.cons_append, List.nil_append]
  have tk2 := h2.tk hg tk
  obtain ⟨f2, b1, b2, b3, b4, b5⟩ := id h2
  have p45' : J2 0 45 = nI (np + j) := f45.trans p45
  rw [B16_55_g38, if_pos b2, B264_43, if_pos b4]
  -- the points stand in order
  have ord : (jv (d + 3) 16 92 [some (.ref 27), some (.int (nI j)), some (.int (nI (12 * nt + j))), some (.int (nI now1)), some (.int x), none] [] (shC, I2, L, pX pa pb (some 38) pw) = (if (0 : Int32) < nI j then if j_in (nI (12 * nt + j) - 1) 96 = true then if (I2 46 (nI (12 * nt + j) - 1).toNatClampNeg) < x then jv (d + 3) 16 92 [some (.ref 27), some (.int (nI j)), some (.int (nI (12 * nt + j))), some (.int (nI now1)), some (.int x), none] [] (shC, I2, L, pX pa pb (some 38) pw) else jgo jTT jMM (d + 3) 7 [.ref 27, .int 6, .int (nI now1)] (shC, I2, L, pX pa pb (some 38) pw) (fun v S => jv (d + 3) 16 91 [some (.ref 27), some (.int (nI j)), some (.int (nI (12 * nt + j))), some (.int (nI now1)), some (.int x), none] (v.toList ++ []) S) else none else jv (d + 3) 16 92 [some (.ref 27), some (.int (nI j)), some (.int (nI (12 * nt + j))), some (.int (nI now1)), some (.int x), none] [] (shC, I2, L, pX pa pb (some 38) pw)) ∧ jv (e + 3) 264 81 [some (.ref 0), some (.int (nI j)), some (.int 1), some (.int (nI (P now1))), some (.long y), none, o6, o7] [] (shR, J2, L1', pR) = (if (0 : Int32) < nI j then if j_in (J2 0 45 - 1) 120 = true then if (0 : Int32) < (lg_cmp y (L1' 31 (J2 0 45 - 1).toNatClampNeg)) then jv (e + 3) 264 81 [some (.ref 0), some (.int (nI j)), some (.int 1), some (.int (nI (P now1))), some (.long y), none, o6, o7] [] (shR, J2, L1', pR) else jgo jTT jMM (e + 3) 253 [.ref 0, .int 6, .int (nI (P now1))] (shR, J2, L1', pR) (fun v S => jv (e + 3) 264 80 [some (.ref 0), some (.int (nI j)), some (.int 1), some (.int (nI (P now1))), some (.long y), none, o6, o7] (v.toList ++ []) S) else none else jv (e + 3) 264 81 [some (.ref 0), some (.int (nI j)), some (.int 1), some (.int (nI (P now1))), some (.long y), none, o6, o7] [] (shR, J2, L1', pR)) ∧ (0 < j → (L1' 31 (np + j - 1)).toInt < y.toInt)) ∨ (∃ I3 J3, (if (0 : Int32) < nI j then if j_in (nI (12 * nt + j) - 1) 96 = true then if (I2 46 (nI (12 * nt + j) - 1).toNatClampNeg) < x then jv (d + 3) 16 92 [some (.ref 27), some (.int (nI j)), some (.int (nI (12 * nt + j))), some (.int (nI now1)), some (.int x), none] [] (shC, I2, L, pX pa pb (some 38) pw) else jgo jTT jMM (d + 3) 7 [.ref 27, .int 6, .int (nI now1)] (shC, I2, L, pX pa pb (some 38) pw) (fun v S => jv (d + 3) 16 91 [some (.ref 27), some (.int (nI j)), some (.int (nI (12 * nt + j))), some (.int (nI now1)), some (.int x), none] (v.toList ++ []) S) else none else jv (d + 3) 16 92 [some (.ref 27), some (.int (nI j)), some (.int (nI (12 * nt + j))), some (.int (nI now1)), some (.int x), none] [] (shC, I2, L, pX pa pb (some 38) pw)) = some (none, (shC, I3, L, pX pa pb (some 38) pw)) ∧ (if (0 : Int32) < nI j then if j_in (J2 0 45 - 1) 120 = true then if (0 : Int32) < (lg_cmp y (L1' 31 (J2 0 45 - 1).toNatClampNeg)) then jv (e + 3) 264 81 [some (.ref 0), some (.int (nI j)), some (.int 1), some (.int (nI (P now1))), some (.long y), none, o6, o7] [] (shR, J2, L1', pR) else jgo jTT jMM (e + 3) 253 [.ref 0, .int 6, .int (nI (P now1))] (shR, J2, L1', pR) (fun v S => jv (e + 3) 264 80 [some (.ref 0), some (.int (nI j)), some (.int 1), some (.int (nI (P now1))), some (.long y), none, o6, o7] (v.toList ++ []) S) else none else jv (e + 3) 264 81 [some (.ref 0), some (.int (nI j)), some (.int 1), some (.int (nI (P now1))), some (.long y), none, o6, o7] [] (shR, J2, L1', pR)) = some (none, (shR, J3, L1', pR)) ∧ tbB 38 T I J L L' I3 J3 L1') := by
    by_cases q0 : j = 0
    · have n0 : ¬ (0 : Int32) < nI j := by rw [q0]; decide
      rw [if_neg n0, if_neg n0]
      exact Or.inl ⟨rfl, rfl, fun z => by omega⟩
    · have n0 : (0 : Int32) < nI j := nI_lt (a := 0) (by omega) (by omega)
      obtain ⟨i, rfl⟩ : ∃ i, j = i + 1 := ⟨j - 1, by omega⟩
      have c1 : nI (12 * nt + (i + 1)) - 1 = nI (12 * nt + i) := nI_prd
      have c2 : nI (np + (i + 1)) - 1 = nI (np + i) := nI_prd
      rw [if_pos n0, if_pos n0, c1, if_pos (j_in_nI (by omega) (by decide)), nI_clamp (by omega), p45', c2, if_pos (j_in_nI (by omega) (by decide)), nI_clamp (by omega)]
      have hx : I2 46 (12 * nt + i) = I1 46 (12 * nt + i) := by rw [fi2 46 (by decide)]
      have p1 := (pp i (by omega)).1
      have lt := ptE.lt p1 pe
      by_cases q1 : (L1' 31 (np + i)).toInt < y.toInt
      · rw [if_pos (by rw [hx]; exact lt.mpr q1), if_pos ((lcmp_pos _ _).mpr q1)]
        exact Or.inl ⟨rfl, rfl, fun _ => q1⟩
      · rw [if_neg (by rw [hx]; exact fun z => q1 (lt.mp z)), if_neg (fun z => q1 ((lcmp_pos _ _).mp z)), show (6 : Int32) = nI 6 from rfl, jgo_some (d := d + 2) rfl (fail_c tk2 a1 b2 6), jgo_some (d := e + 2) rfl (fails_rk b4 6 (P now1))]
        dsimp only [Option.toList_some, Option.toList_none, List.cons_append, List.nil_append]
        have hb : tbB 38 T I J L L' (flC I2 6 (P now1)) (flR J2 6 (P now1)) L1' := h2.fl hg (by decide)
        obtain ⟨m, m1, m2, _⟩ := hb.2.2
        refine Or.inr ⟨_, _, ?_, ?_, hb⟩
        · rw [B16_91_g38, pt92_cf38 (d := d) hb.2.1.f.1]
        · rw [B264_80, pt92_rf (e := e + 1) hb.2.1.f.2 m2 (by omega)]
  rcases ord with ⟨o1, o2, hord⟩ | ⟨I3, J3, o1, o2, hb⟩
  case inr => exact Or.inr ⟨I3, J3, o1, o2, hb⟩
  rw [← o1, ← o2, B16_92_g38, B264_81, show (58 : Int32) = nI 58 from rfl]
  rcases h2.want (d := d + 1) (e := e + 1) (pa := pa) (pb := pb) (pu := some 38) (pw := pw) hg tk (k := 58) (by decide) (by decide) with ⟨lt3, ec3, er3, h3, q3⟩ | ⟨I3, J3, ec3, er3, hb, q3⟩
  case inr =>
    obtain ⟨m, m1, m2, _⟩ := hb.2.2
    refine Or.inr ⟨I3, J3, ?_, ?_, hb⟩
    · rw [jgo_some (d := d + 2) rfl ec3]
      dsimp only [Option.toList_some, Option.toList_none, List.cons_append, List.nil_append]
      rw [B16_98_g38, jgo_some (d := d + 2) rfl (sgn_cf hb.2.1.f.1)]
      dsimp only [Option.toList_some, Option.toList_none, List.cons_append, List.nil_append]
      rw [B16_103_g38, if_neg hb.2.1.f.1, B16_153_g38]
    · rw [show nI 58 = nI (kR 58) from rfl, jgo_some (d := e + 2) rfl er3]
      dsimp only [Option.toList_some, Option.toList_none, List.cons_append, List.nil_append]
      rw [B264_87, jgo_some (d := e + 2) rfl (sgn_rf hb.2.1.f.2 m2 (by omega))]
      dsimp only [Option.toList_some, Option.toList_none, List.cons_append, List.nil_append]
      rw [B264_92, if_neg hb.2.1.f.2]
  rw [jgo_some (d := d + 2) rfl ec3, show nI 58 = nI (kR 58) from rfl, jgo_some (d := e + 2) rfl er3]
  dsimp only [Option.toList_some, Option.toList_none, List.cons_append, List.nil_append]
  rw [B16_98_g38, B264_87]
  rcases h3.sgn (d := d) (e := e) (pa := pa) (pb := pb) (pu := some 38) (pw := pw) hg tk with ⟨x', y', now4, I4, J4, lt4, pe4, ec4, er4, h4, fi4, fj4, g45⟩ | ⟨x', y', I4, J4, ec4, er4, hb⟩
  case inr =>
    refine Or.inr ⟨I4, J4, ?_, ?_, hb⟩
    · rw [jgo_some (d := d + 2) rfl ec4]
      dsimp only [Option.toList_some, Option.toList_none, List.cons_append, List.nil_append]
      rw [B16_103_g38, if_neg hb.2.1.f.1, B16_153_g38]
    · rw [jgo_some (d := e + 2) rfl er4]
      dsimp only [Option.toList_some, Option.toList_none, List.cons_append, List.nil_append]
      rw [B264_92, if_neg hb.2.1.f.2]
  rw [jgo_some (d := d + 2) rfl ec4, jgo_some (d := e + 2) rfl er4]
  dsimp only [Option.toList_some, Option.toList_none, List.cons_append, List.nil_append]
  have tk4 := h4.tk hg tk
  obtain ⟨f4, e1, e2, e3, e4, e5⟩ := id h4
  have k45 : J4 0 45 = nI (np + j) := by rw [g45, j_up_own, if_neg (by decide)]; exact p45'
  have k12 : I4 38 12 = nI nt := by rw [f4.2.2.2.2.1]; exact hg12
  have ci : ∀ c, c ≠ 27 → I4 c = I1 c := fun c hc => (fi4 c hc).trans ((j_up_cell _ hc _ _).trans (fi2 c hc))
  have cj : ∀ c, c ≠ 0 → J4 c = J1 c := fun c hc => (fj4 c hc).trans ((j_up_cell _ hc _ _).trans (fj2 c hc))
  have u12 : j_up (j_up I4 46 (12 * nt + j) x) 47 (12 * nt + j) x' 38 12 = nI nt := by rw [j_up_cell _ (by decide), j_up_cell _ (by decide)]; exact k12
  have u48 : j_up (j_up I4 46 (12 * nt + j) x) 47 (12 * nt + j) x' 48 nt = nI j := by rw [j_up_cell _ (by decide), j_up_cell _ (by decide), ci 48 (by decide)]; exact p10
  have h5 : tbX 38 T nt np I J L' now4 (j_up (j_up (j_up I4 46 (12 * nt + j) x) 47 (12 * nt + j) x') 48 nt (nI (j + 1))) (j_up J4 0 45 (nI (np + j + 1))) (j_up (j_up L1' 31 (np + j) y) 32 (np + j) y') := by
    refine ⟨⟨fun c a b => ?_, fun i a => ⟨?_, ?_⟩, fun i a => ?_, fun q a b c => ?_, ?_, fun c a b c' => ?_, fun i a => ?_, fun q a b c c' => ?_, fun c a b => ?_, fun i a => ⟨?_, ?_⟩⟩, e1, ?_, ?_, ?_, ?_⟩
    · rw [j_up_cell _ (by omega), j_up_cell _ (by omega), j_up_cell _ (by omega)]; exact f4.1 c a b
    · show j_up _ _ _ _ 46 i = _
      rw [j_up_cell _ (by decide), j_up_cell _ (by decide), j_up_own, if_neg (by omega)]; exact (f4.2.1 i a).1
    · show j_up _ _ _ _ 47 i = _
      rw [j_up_cell _ (by decide), j_up_own, if_neg (by omega), j_up_cell _ (by decide)]; exact (f4.2.1 i a).2
    · show j_up _ _ _ _ 48 i = _
      rw [j_up_own, if_neg (by omega), j_up_cell _ (by decide), j_up_cell _ (by decide)]; exact f4.2.2.1 i a
    · rw [j_up_cell _ (by decide), j_up_cell _ (by decide), j_up_cell _ (by decide)]; exact f4.2.2.2.1 q a b c
    · rw [j_up_cell _ (by decide), j_up_cell _ (by decide), j_up_cell _ (by decide)]; exact f4.2.2.2.2.1
    · rw [j_up_cell _ a]; exact f4.2.2.2.2.2.1 c a b c'
    · rw [j_up_cell _ (by decide), j_up_cell _ (by decide)]; exact f4.2.2.2.2.2.2.1 i a
    · rw [j_up_own, if_neg c']; exact f4.2.2.2.2.2.2.2.1 q a b c c'
    · rw [j_up_cell _ b, j_up_cell _ a]; exact f4.2.2.2.2.2.2.2.2.1 c a b
    · rw [j_up_cell _ (by decide), j_up_own, if_neg (by omega)]; exact (f4.2.2.2.2.2.2.2.2.2 i a).1
    · rw [j_up_own, if_neg (by omega), j_up_cell _ (by decide)]; exact (f4.2.2.2.2.2.2.2.2.2 i a).2
    · rw [j_up_cell _ (by decide), j_up_cell _ (by decide), j_up_cell _ (by decide)]; exact e2
    · rw [j_up_cell _ (by decide), j_up_cell _ (by decide), j_up_cell _ (by decide)]; exact e3
    · rw [j_up_own, if_neg (by decide)]; exact e4
    · rw [j_up_own, if_neg (by decide)]; exact e5
  have tk5 := h5.tk hg tk
  have i44 := is_r (e := e + 2) tk5 e1 h5.2.2.2.2.2 (k := 44) (by decide)
  rw [show nI (kR 44) = (44 : Int32) from rfl] at i44
  refine Or.inl ⟨now4, _, _, _, nI (P now1), y, y', by omega, j12, ?_, ?_, h5, ?_, ?_, ?_, fun i hi => ?_, fun i hi => ?_⟩
  · rw [B16_103_g38, if_pos e2, if_pos (j_in_nI (by omega) (by decide)), if_pos (j_in_nI (by omega) (by decide)), nI_clamp (by omega), u12, if_pos (j_in_nI hnt (by decide)), if_pos (j_in_nI hnt (by decide)), nI_clamp (by omega), u48, show nI j + 1 = nI (j + 1) from nI_add j 1, B16_153_g38]
  · rw [B264_92, if_pos e4, k45, if_pos (j_in_nI (by omega) (by decide)), if_pos (j_in_nI (by omega) (by decide)), nI_clamp (by omega), show nI (np + j) + 1 = nI (np + j + 1) from nI_add (np + j) 1, jgo_some (d := e + 2) rfl i44, show nI j + 1 = nI (j + 1) from nI_add j 1]
    rfl
  · show j_up _ _ _ _ 48 nt = _
    rw [j_up_own, if_pos rfl]
  · rw [j_up_own, if_pos rfl]; rfl
  · rw [j_up_cell _ (by decide), cj 29 (by decide)]; exact p29
  · show ptE (j_up (j_up (j_up I4 46 (12 * nt + j) x) 47 (12 * nt + j) x') 48 nt (nI (j + 1)) 46 (12 * nt + i)) _ ∧ ptE (j_up (j_up (j_up I4 46 (12 * nt + j) x) 47 (12 * nt + j) x') 48 nt (nI (j + 1)) 47 (12 * nt + i)) _
    rw [show j_up (j_up (j_up I4 46 (12 * nt + j) x) 47 (12 * nt + j) x') 48 nt (nI (j + 1)) 46 (12 * nt + i) = if 12 * nt + i = 12 * nt + j then x else I4 46 (12 * nt + i) by rw [j_up_cell _ (by decide), j_up_cell _ (by decide), j_up_own], show j_up (j_up (j_up I4 46 (12 * nt + j) x) 47 (12 * nt + j) x') 48 nt (nI (j + 1)) 47 (12 * nt + i) = if 12 * nt + i = 12 * nt + j then x' else I4 47 (12 * nt + i) by rw [j_up_cell _ (by decide), j_up_own, j_up_cell _ (by decide)], show j_up (j_up L1' 31 (np + j) y) 32 (np + j) y' 31 (np + i) = if np + i = np + j then y else L1' 31 (np + i) by rw [j_up_cell _ (by decide), j_up_own], show j_up (j_up L1' 31 (np + j) y) 32 (np + j) y' 32 (np + i) = if np + i = np + j then y' else L1' 32 (np + i) by rw [j_up_own, j_up_cell _ (by decide)]]
    rcases Nat.lt_or_eq_of_le (show i ≤ j by omega) with z | z
    · rw [if_neg (by omega), if_neg (by omega), if_neg (by omega), if_neg (by omega), ci 46 (by decide), ci 47 (by decide)]; exact pp i z
    · subst z; rw [if_pos rfl, if_pos rfl, if_pos rfl, if_pos rfl]; exact ⟨pe, pe4⟩
  · rw [j_up_cell _ (show 31 ≠ 32 by decide), j_up_own, j_up_own]
    rcases Nat.lt_or_eq_of_le (show i + 1 ≤ j by omega) with z | z
    · rw [if_neg (by omega), if_neg (by omega)]; exact pi i z
    · subst z
      rw [if_neg (by omega), if_pos (by omega)]
      have := hord (by omega)
      rw [show np + (i + 1) - 1 = np + i by omega] at this
      exact this
theorem pt92_cf49 {d : Nat} {I : Nat → Nat → Int32} {L : Nat → Nat → Int64} (h0 : I 27 0 ≠ 0) (l1 l2 l3 l4 : Int32) (o5 : Option Value) : jv (d + 3) 16 92 [some (.ref 27), some (.int l1), some (.int l2), some (.int l3), some (.int l4), o5] [] (shC, I, L, pX pa pb (some 49) pw) = some (none, (shC, I, L, pX pa pb (some 49) pw)) := by
  rw [B16_92_g49, jgo_some (d := d + 2) rfl (expect_cf (d := d + 1) h0 _)]
  dsimp only [Option.toList_some, Option.toList_none, List.cons_append, List.nil_append]
  rw [B16_98_g49, jgo_some (d := d + 2) rfl (sgn_cf h0)]
  dsimp only [Option.toList_some, Option.toList_none, List.cons_append, List.nil_append]
  rw [B16_103_g49, if_neg h0, B16_153_g49]
theorem point_sim49 {d e j np now1 : Nat} {I J I1 J1 : Nat → Nat → Int32} {L L' L1' : Nat → Nat → Int64} (tk : tkS T K P W U I L J L') (hnt : nt < 8) (hnp : np ≤ 12 * nt) (hg12 : I 49 12 = nI nt) (hj : j ≤ 12) (h : tbP 49 T nt np I J L' j now1 I1 J1 L1') (o3 o4 o5 o6 o7 : Option Value) :
    (∃ now2 I2 J2 L2' l3 l4 l6, now1 < now2 ∧ j < 12 ∧ jv (d + 3) 16 0 [some (.ref 27), none, none, none, none, none] [] (shC, I1, L, pX pa pb (some 49) pw) = some (none, (shC, I2, L, pX pa pb (some 49) pw)) ∧ jv (e + 3) 264 4 [some (.ref 0), some (.int (nI j)), some (.int 1), o3, o4, o5, o6, o7] [] (shR, J1, L1', pR) = jv (e + 3) 264 143 [some (.ref 0), some (.int (nI (j + 1))), some (.int 1), some (.int l3), some (.long l4), none, some (.long l6), none] [.int (if K now2 = 44 then 1 else 0)] (shR, J2, L2', pR) ∧ tbP 49 T nt np I J L' (j + 1) now2 I2 J2 L2') ∨
    (∃ I2 J2, jv (d + 3) 16 0 [some (.ref 27), none, none, none, none, none] [] (shC, I1, L, pX pa pb (some 49) pw) = some (none, (shC, I2, L, pX pa pb (some 49) pw)) ∧ jv (e + 3) 264 4 [some (.ref 0), some (.int (nI j)), some (.int 1), o3, o4, o5, o6, o7] [] (shR, J1, L1', pR) = some (none, (shR, J2, L1', pR)) ∧ tbB 49 T I J L L' I2 J2 L1') := by
  have hg : 49 = 38 ∨ 49 = 49 := by decide
  have hT := tk.1
  obtain ⟨h1, p10, p45, p29, pp, pi⟩ := h
  have tk1 := h1.tk hg tk
  obtain ⟨f, a1, a2, a3, a4, a5⟩ := id h1
  have tq := tk1.2.2.2.1 now1 a1
  have i12 : I1 49 12 = nI nt := by rw [f.2.2.2.2.1]; exact hg12
  have i10 : I1 59 nt = nI j := p10
  rw [B16_0_g49, i12, if_pos (j_in_nI hnt (by decide)), nI_clamp (by omega), i10, B264_4, if_neg (show ¬ (1 : Int32) = 0 by decide), if_pos a4, a5, if_pos (j_in_nI (by omega) (by decide)), nI_clamp (by omega), tq.2.2.2.1, a3]
  by_cases q12 : j = 12
  · have n12 : nI j = 12 := by rw [q12]; rfl
    rw [if_neg (show ¬ nI j < (12 : Int32) by rw [n12]; decide), if_pos n12, show (5 : Int32) = nI 5 from rfl, jgo_some (d := d + 2) rfl (fail_c tk1 a1 a2 5), jgo_some (d := e + 2) rfl (fails_rk a4 5 (P now1))]
    dsimp only [Option.toList_some, Option.toList_none, List.cons_append, List.nil_append]
    rw [B16_31_g49, B264_37]
    exact Or.inr ⟨_, _, rfl, rfl, h1.fl hg (by decide)⟩
  have j12 : j < 12 := by omega
  rw [if_pos (show nI j < (12 : Int32) from nI_lt (b := 12) j12 (by decide)), if_neg (show ¬ nI j = (12 : Int32) from fun z => q12 ((nI_eq (b := 12) (by omega) (by decide)).mp z)), show nI nt * 12 + nI j = nI (12 * nt + j) by rw [show nI nt * 12 = nI (nt * 12) from nI_mul nt 12, nI_add, Nat.mul_comm]]
  rcases h1.sgn (d := d) (e := e) (pa := pa) (pb := pb) (pu := some 49) (pw := pw) hg tk with ⟨x, y, now2, I2, J2, lt2, pe, ec, er, h2, fi2, fj2, f45⟩ | ⟨x, y, I2, J2, ec, er, hb⟩
  case inr =>
    obtain ⟨m, m1, m2, _⟩ := hb.2.2
    refine Or.inr ⟨I2, J2, ?_, ?_, hb⟩
    · rw [jgo_some (d := d + 2) rfl ec]
      dsimp only [Option.toList_some, Option.toList_none, List.cons_append, List.nil_append]
      rw [B16_55_g49, if_neg hb.2.1.f.1, pt92_cf49 (d := d) hb.2.1.f.1]
    · rw [jgo_some (d := e + 2) rfl er]
      dsimp only [Option.toList_some, Option.toList_none, List.cons_append, List.nil_append]
      rw [B264_43, if_neg hb.2.1.f.2, pt92_rf (e := e + 1) hb.2.1.f.2 m2 (by omega)]
  rw [jgo_some (d := d + 2) rfl ec, jgo_some (d := e + 2) rfl er]
  dsimp only [Option.toList_some, Option.toList_none, List.cons_append, List.nil_append]
  have tk2 := h2.tk hg tk
  obtain ⟨f2, b1, b2, b3, b4, b5⟩ := id h2
  have p45' : J2 0 45 = nI (np + j) := f45.trans p45
  rw [B16_55_g49, if_pos b2, B264_43, if_pos b4]
  -- the points stand in order
  have ord : (jv (d + 3) 16 92 [some (.ref 27), some (.int (nI j)), some (.int (nI (12 * nt + j))), some (.int (nI now1)), some (.int x), none] [] (shC, I2, L, pX pa pb (some 49) pw) = (if (0 : Int32) < nI j then if j_in (nI (12 * nt + j) - 1) 96 = true then if (I2 57 (nI (12 * nt + j) - 1).toNatClampNeg) < x then jv (d + 3) 16 92 [some (.ref 27), some (.int (nI j)), some (.int (nI (12 * nt + j))), some (.int (nI now1)), some (.int x), none] [] (shC, I2, L, pX pa pb (some 49) pw) else jgo jTT jMM (d + 3) 7 [.ref 27, .int 6, .int (nI now1)] (shC, I2, L, pX pa pb (some 49) pw) (fun v S => jv (d + 3) 16 91 [some (.ref 27), some (.int (nI j)), some (.int (nI (12 * nt + j))), some (.int (nI now1)), some (.int x), none] (v.toList ++ []) S) else none else jv (d + 3) 16 92 [some (.ref 27), some (.int (nI j)), some (.int (nI (12 * nt + j))), some (.int (nI now1)), some (.int x), none] [] (shC, I2, L, pX pa pb (some 49) pw)) ∧ jv (e + 3) 264 81 [some (.ref 0), some (.int (nI j)), some (.int 1), some (.int (nI (P now1))), some (.long y), none, o6, o7] [] (shR, J2, L1', pR) = (if (0 : Int32) < nI j then if j_in (J2 0 45 - 1) 120 = true then if (0 : Int32) < (lg_cmp y (L1' 31 (J2 0 45 - 1).toNatClampNeg)) then jv (e + 3) 264 81 [some (.ref 0), some (.int (nI j)), some (.int 1), some (.int (nI (P now1))), some (.long y), none, o6, o7] [] (shR, J2, L1', pR) else jgo jTT jMM (e + 3) 253 [.ref 0, .int 6, .int (nI (P now1))] (shR, J2, L1', pR) (fun v S => jv (e + 3) 264 80 [some (.ref 0), some (.int (nI j)), some (.int 1), some (.int (nI (P now1))), some (.long y), none, o6, o7] (v.toList ++ []) S) else none else jv (e + 3) 264 81 [some (.ref 0), some (.int (nI j)), some (.int 1), some (.int (nI (P now1))), some (.long y), none, o6, o7] [] (shR, J2, L1', pR)) ∧ (0 < j → (L1' 31 (np + j - 1)).toInt < y.toInt)) ∨ (∃ I3 J3, (if (0 : Int32) < nI j then if j_in (nI (12 * nt + j) - 1) 96 = true then if (I2 57 (nI (12 * nt + j) - 1).toNatClampNeg) < x then jv (d + 3) 16 92 [some (.ref 27), some (.int (nI j)), some (.int (nI (12 * nt + j))), some (.int (nI now1)), some (.int x), none] [] (shC, I2, L, pX pa pb (some 49) pw) else jgo jTT jMM (d + 3) 7 [.ref 27, .int 6, .int (nI now1)] (shC, I2, L, pX pa pb (some 49) pw) (fun v S => jv (d + 3) 16 91 [some (.ref 27), some (.int (nI j)), some (.int (nI (12 * nt + j))), some (.int (nI now1)), some (.int x), none] (v.toList ++ []) S) else none else jv (d + 3) 16 92 [some (.ref 27), some (.int (nI j)), some (.int (nI (12 * nt + j))), some (.int (nI now1)), some (.int x), none] [] (shC, I2, L, pX pa pb (some 49) pw)) = some (none, (shC, I3, L, pX pa pb (some 49) pw)) ∧ (if (0 : Int32) < nI j then if j_in (J2 0 45 - 1) 120 = true then if (0 : Int32) < (lg_cmp y (L1' 31 (J2 0 45 - 1).toNatClampNeg)) then jv (e + 3) 264 81 [some (.ref 0), some (.int (nI j)), some (.int 1), some (.int (nI (P now1))), some (.long y), none, o6, o7] [] (shR, J2, L1', pR) else jgo jTT jMM (e + 3) 253 [.ref 0, .int 6, .int (nI (P now1))] (shR, J2, L1', pR) (fun v S => jv (e + 3) 264 80 [some (.ref 0), some (.int (nI j)), some (.int 1), some (.int (nI (P now1))), some (.long y), none, o6, o7] (v.toList ++ []) S) else none else jv (e + 3) 264 81 [some (.ref 0), some (.int (nI j)), some (.int 1), some (.int (nI (P now1))), some (.long y), none, o6, o7] [] (shR, J2, L1', pR)) = some (none, (shR, J3, L1', pR)) ∧ tbB 49 T I J L L' I3 J3 L1') := by
    by_cases q0 : j = 0
    · have n0 : ¬ (0 : Int32) < nI j := by rw [q0]; decide
      rw [if_neg n0, if_neg n0]
      exact Or.inl ⟨rfl, rfl, fun z => by omega⟩
    · have n0 : (0 : Int32) < nI j := nI_lt (a := 0) (by omega) (by omega)
      obtain ⟨i, rfl⟩ : ∃ i, j = i + 1 := ⟨j - 1, by omega⟩
      have c1 : nI (12 * nt + (i + 1)) - 1 = nI (12 * nt + i) := nI_prd
      have c2 : nI (np + (i + 1)) - 1 = nI (np + i) := nI_prd
      rw [if_pos n0, if_pos n0, c1, if_pos (j_in_nI (by omega) (by decide)), nI_clamp (by omega), p45', c2, if_pos (j_in_nI (by omega) (by decide)), nI_clamp (by omega)]
      have hx : I2 57 (12 * nt + i) = I1 57 (12 * nt + i) := by rw [fi2 57 (by decide)]
      have p1 := (pp i (by omega)).1
      have lt := ptE.lt p1 pe
      by_cases q1 : (L1' 31 (np + i)).toInt < y.toInt
      · rw [if_pos (by rw [hx]; exact lt.mpr q1), if_pos ((lcmp_pos _ _).mpr q1)]
        exact Or.inl ⟨rfl, rfl, fun _ => q1⟩
      · rw [if_neg (by rw [hx]; exact fun z => q1 (lt.mp z)), if_neg (fun z => q1 ((lcmp_pos _ _).mp z)), show (6 : Int32) = nI 6 from rfl, jgo_some (d := d + 2) rfl (fail_c tk2 a1 b2 6), jgo_some (d := e + 2) rfl (fails_rk b4 6 (P now1))]
        dsimp only [Option.toList_some, Option.toList_none, List.cons_append, List.nil_append]
        have hb : tbB 49 T I J L L' (flC I2 6 (P now1)) (flR J2 6 (P now1)) L1' := h2.fl hg (by decide)
        obtain ⟨m, m1, m2, _⟩ := hb.2.2
        refine Or.inr ⟨_, _, ?_, ?_, hb⟩
        · rw [B16_91_g49, pt92_cf49 (d := d) hb.2.1.f.1]
        · rw [B264_80, pt92_rf (e := e + 1) hb.2.1.f.2 m2 (by omega)]
  rcases ord with ⟨o1, o2, hord⟩ | ⟨I3, J3, o1, o2, hb⟩
  case inr => exact Or.inr ⟨I3, J3, o1, o2, hb⟩
  rw [← o1, ← o2, B16_92_g49, B264_81, show (58 : Int32) = nI 58 from rfl]
  rcases h2.want (d := d + 1) (e := e + 1) (pa := pa) (pb := pb) (pu := some 49) (pw := pw) hg tk (k := 58) (by decide) (by decide) with ⟨lt3, ec3, er3, h3, q3⟩ | ⟨I3, J3, ec3, er3, hb, q3⟩
  case inr =>
    obtain ⟨m, m1, m2, _⟩ := hb.2.2
    refine Or.inr ⟨I3, J3, ?_, ?_, hb⟩
    · rw [jgo_some (d := d + 2) rfl ec3]
      dsimp only [Option.toList_some, Option.toList_none, List.cons_append, List.nil_append]
      rw [B16_98_g49, jgo_some (d := d + 2) rfl (sgn_cf hb.2.1.f.1)]
      dsimp only [Option.toList_some, Option.toList_none, List.cons_append, List.nil_append]
      rw [B16_103_g49, if_neg hb.2.1.f.1, B16_153_g49]
    · rw [show nI 58 = nI (kR 58) from rfl, jgo_some (d := e + 2) rfl er3]
      dsimp only [Option.toList_some, Option.toList_none, List.cons_append, List.nil_append]
      rw [B264_87, jgo_some (d := e + 2) rfl (sgn_rf hb.2.1.f.2 m2 (by omega))]
      dsimp only [Option.toList_some, Option.toList_none, List.cons_append, List.nil_append]
      rw [B264_92, if_neg hb.2.1.f.2]
  rw [jgo_some (d := d + 2) rfl ec3, show nI 58 = nI (kR 58) from rfl, jgo_some (d := e + 2) rfl er3]
  dsimp only [Option.toList_some, Option.toList_none, List.cons_append, List.nil_append]
  rw [B16_98_g49, B264_87]
  rcases h3.sgn (d := d) (e := e) (pa := pa) (pb := pb) (pu := some 49) (pw := pw) hg tk with ⟨x', y', now4, I4, J4, lt4, pe4, ec4, er4, h4, fi4, fj4, g45⟩ | ⟨x', y', I4, J4, ec4, er4, hb⟩
  case inr =>
    refine Or.inr ⟨I4, J4, ?_, ?_, hb⟩
    · rw [jgo_some (d := d + 2) rfl ec4]
      dsimp only [Option.toList_some, Option.toList_none, List.cons_append, List.nil_append]
      rw [B16_103_g49, if_neg hb.2.1.f.1, B16_153_g49]
    · rw [jgo_some (d := e + 2) rfl er4]
      dsimp only [Option.toList_some, Option.toList_none, List.cons_append, List.nil_append]
      rw [B264_92, if_neg hb.2.1.f.2]
  rw [jgo_some (d := d + 2) rfl ec4, jgo_some (d := e + 2) rfl er4]
  dsimp only [Option.toList_some, Option.toList_none, List.cons_append, List.nil_append]
  have tk4 := h4.tk hg tk
  obtain ⟨f4, e1, e2, e3, e4, e5⟩ := id h4
  have k45 : J4 0 45 = nI (np + j) := by rw [g45, j_up_own, if_neg (by decide)]; exact p45'
  have k12 : I4 49 12 = nI nt := by rw [f4.2.2.2.2.1]; exact hg12
  have ci : ∀ c, c ≠ 27 → I4 c = I1 c := fun c hc => (fi4 c hc).trans ((j_up_cell _ hc _ _).trans (fi2 c hc))
  have cj : ∀ c, c ≠ 0 → J4 c = J1 c := fun c hc => (fj4 c hc).trans ((j_up_cell _ hc _ _).trans (fj2 c hc))
  have u12 : j_up (j_up I4 57 (12 * nt + j) x) 58 (12 * nt + j) x' 49 12 = nI nt := by rw [j_up_cell _ (by decide), j_up_cell _ (by decide)]; exact k12
  have u48 : j_up (j_up I4 57 (12 * nt + j) x) 58 (12 * nt + j) x' 59 nt = nI j := by rw [j_up_cell _ (by decide), j_up_cell _ (by decide), ci 59 (by decide)]; exact p10
  have h5 : tbX 49 T nt np I J L' now4 (j_up (j_up (j_up I4 57 (12 * nt + j) x) 58 (12 * nt + j) x') 59 nt (nI (j + 1))) (j_up J4 0 45 (nI (np + j + 1))) (j_up (j_up L1' 31 (np + j) y) 32 (np + j) y') := by
    refine ⟨⟨fun c a b => ?_, fun i a => ⟨?_, ?_⟩, fun i a => ?_, fun q a b c => ?_, ?_, fun c a b c' => ?_, fun i a => ?_, fun q a b c c' => ?_, fun c a b => ?_, fun i a => ⟨?_, ?_⟩⟩, e1, ?_, ?_, ?_, ?_⟩
    · rw [j_up_cell _ (by omega), j_up_cell _ (by omega), j_up_cell _ (by omega)]; exact f4.1 c a b
    · show j_up _ _ _ _ 57 i = _
      rw [j_up_cell _ (by decide), j_up_cell _ (by decide), j_up_own, if_neg (by omega)]; exact (f4.2.1 i a).1
    · show j_up _ _ _ _ 58 i = _
      rw [j_up_cell _ (by decide), j_up_own, if_neg (by omega), j_up_cell _ (by decide)]; exact (f4.2.1 i a).2
    · show j_up _ _ _ _ 59 i = _
      rw [j_up_own, if_neg (by omega), j_up_cell _ (by decide), j_up_cell _ (by decide)]; exact f4.2.2.1 i a
    · rw [j_up_cell _ (by decide), j_up_cell _ (by decide), j_up_cell _ (by decide)]; exact f4.2.2.2.1 q a b c
    · rw [j_up_cell _ (by decide), j_up_cell _ (by decide), j_up_cell _ (by decide)]; exact f4.2.2.2.2.1
    · rw [j_up_cell _ a]; exact f4.2.2.2.2.2.1 c a b c'
    · rw [j_up_cell _ (by decide), j_up_cell _ (by decide)]; exact f4.2.2.2.2.2.2.1 i a
    · rw [j_up_own, if_neg c']; exact f4.2.2.2.2.2.2.2.1 q a b c c'
    · rw [j_up_cell _ b, j_up_cell _ a]; exact f4.2.2.2.2.2.2.2.2.1 c a b
    · rw [j_up_cell _ (by decide), j_up_own, if_neg (by omega)]; exact (f4.2.2.2.2.2.2.2.2.2 i a).1
    · rw [j_up_own, if_neg (by omega), j_up_cell _ (by decide)]; exact (f4.2.2.2.2.2.2.2.2.2 i a).2
    · rw [j_up_cell _ (by decide), j_up_cell _ (by decide), j_up_cell _ (by decide)]; exact e2
    · rw [j_up_cell _ (by decide), j_up_cell _ (by decide), j_up_cell _ (by decide)]; exact e3
    · rw [j_up_own, if_neg (by decide)]; exact e4
    · rw [j_up_own, if_neg (by decide)]; exact e5
  have tk5 := h5.tk hg tk
  have i44 := is_r (e := e + 2) tk5 e1 h5.2.2.2.2.2 (k := 44) (by decide)
  rw [show nI (kR 44) = (44 : Int32) from rfl] at i44
  refine Or.inl ⟨now4, _, _, _, nI (P now1), y, y', by omega, j12, ?_, ?_, h5, ?_, ?_, ?_, fun i hi => ?_, fun i hi => ?_⟩
  · rw [B16_103_g49, if_pos e2, if_pos (j_in_nI (by omega) (by decide)), if_pos (j_in_nI (by omega) (by decide)), nI_clamp (by omega), u12, if_pos (j_in_nI hnt (by decide)), if_pos (j_in_nI hnt (by decide)), nI_clamp (by omega), u48, show nI j + 1 = nI (j + 1) from nI_add j 1, B16_153_g49]
  · rw [B264_92, if_pos e4, k45, if_pos (j_in_nI (by omega) (by decide)), if_pos (j_in_nI (by omega) (by decide)), nI_clamp (by omega), show nI (np + j) + 1 = nI (np + j + 1) from nI_add (np + j) 1, jgo_some (d := e + 2) rfl i44, show nI j + 1 = nI (j + 1) from nI_add j 1]
    rfl
  · show j_up _ _ _ _ 59 nt = _
    rw [j_up_own, if_pos rfl]
  · rw [j_up_own, if_pos rfl]; rfl
  · rw [j_up_cell _ (by decide), cj 29 (by decide)]; exact p29
  · show ptE (j_up (j_up (j_up I4 57 (12 * nt + j) x) 58 (12 * nt + j) x') 59 nt (nI (j + 1)) 57 (12 * nt + i)) _ ∧ ptE (j_up (j_up (j_up I4 57 (12 * nt + j) x) 58 (12 * nt + j) x') 59 nt (nI (j + 1)) 58 (12 * nt + i)) _
    rw [show j_up (j_up (j_up I4 57 (12 * nt + j) x) 58 (12 * nt + j) x') 59 nt (nI (j + 1)) 57 (12 * nt + i) = if 12 * nt + i = 12 * nt + j then x else I4 57 (12 * nt + i) by rw [j_up_cell _ (by decide), j_up_cell _ (by decide), j_up_own], show j_up (j_up (j_up I4 57 (12 * nt + j) x) 58 (12 * nt + j) x') 59 nt (nI (j + 1)) 58 (12 * nt + i) = if 12 * nt + i = 12 * nt + j then x' else I4 58 (12 * nt + i) by rw [j_up_cell _ (by decide), j_up_own, j_up_cell _ (by decide)], show j_up (j_up L1' 31 (np + j) y) 32 (np + j) y' 31 (np + i) = if np + i = np + j then y else L1' 31 (np + i) by rw [j_up_cell _ (by decide), j_up_own], show j_up (j_up L1' 31 (np + j) y) 32 (np + j) y' 32 (np + i) = if np + i = np + j then y' else L1' 32 (np + i) by rw [j_up_own, j_up_cell _ (by decide)]]
    rcases Nat.lt_or_eq_of_le (show i ≤ j by omega) with z | z
    · rw [if_neg (by omega), if_neg (by omega), if_neg (by omega), if_neg (by omega), ci 57 (by decide), ci 58 (by decide)]; exact pp i z
    · subst z; rw [if_pos rfl, if_pos rfl, if_pos rfl, if_pos rfl]; exact ⟨pe, pe4⟩
  · rw [j_up_cell _ (show 31 ≠ 32 by decide), j_up_own, j_up_own]
    rcases Nat.lt_or_eq_of_le (show i + 1 ≤ j by omega) with z | z
    · rw [if_neg (by omega), if_neg (by omega)]; exact pi i z
    · subst z
      rw [if_neg (by omega), if_pos (by omega)]
      have := hord (by omega)
      rw [show np + (i + 1) - 1 = np + i by omega] at this
      exact this
end PARW
