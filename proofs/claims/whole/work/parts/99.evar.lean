/-! RULES: tables in the second one -/
section EVAR
variable {m t a : Nat} {px py : Nat → Int} {p : Int × Int}
variable {J : Nat → Nat → Int32} {L : Nat → Nat → Int64}
theorem j_up2 {α : Type} (f : Nat → Nat → α) (a k : Nat) (v w : α) : j_up (j_up f a k v) a k w = j_up f a k w := by
  funext x y
  by_cases z : x = a
  · subst z
    rw [j_up_own, j_up_own, j_up_own]
    by_cases z2 : y = k
    · rw [if_pos z2, if_pos z2]
    · rw [if_neg z2, if_neg z2, if_neg z2]
  · rw [j_up_cell _ z, j_up_cell _ z, j_up_cell _ z]
/-- a whole number, second one -/
theorem whole_r {e : Nat} {J : Nat → Nat → Int32} {L : Nat → Nat → Int64} {v : Int} (h : fB v) : jv (e + 2) 288 0 [some (.ref 0), some (.long (lI v)), none] [] (shR, J, L, pR) = some (none, (shR, j_up J 0 53 0, fqR L (v, 1), pR)) := by
  have r1 := res_r (e := e) (J := j_up J 0 53 0) (L' := L) (by rw [j_up_own, if_pos rfl]) (lI v) 1
  rw [h.i, show (1 : Int64).toInt = 1 from rfl, fS_1 h] at r1
  rw [B288_0, if_pos (by decide), jgo_some (d := e + 1) rfl r1]
  dsimp only [Option.toList_some, Option.toList_none, List.cons_append, List.nil_append]
  rw [B288_11]
/-- between two points -/
theorem tbw_r {e i : Nat} {x : Int32} {l1 l6 l7 l8 : Int32} {o10 o11 o12 o13 : Option Value} (hp : fN p) (ha : a + m ≤ 96) (hx : ∀ j, j < m → L 31 (a + j) = lI (px j) ∧ sml (px j)) (hy : ∀ j, j < m → L 32 (a + j) = lI (py j) ∧ sml (py j)) (hi : 0 < i) (him : i < m) {q0 : Int × Int} : ∃ y, jgo jTT jMM (e + 3) 282 [.ref 0, .int 13, .long (lI p.1), .long (lI p.2), .long (lI (px (i - 1))), .long 1] (shR, j_up J 0 53 x, fqR L q0, pR) (fun v S => jv (e + 3) 287 147 [some (.ref 0), some (.int l1), some (.long (lI p.1)), none, some (.long (lI p.2)), none, some (.int l6), some (.int l7), some (.int l8), some (.int (nI (a + i))), o10, o11, o12, o13] (v.toList ++ []) S) = some (none, (shR, j_up J 0 53 y, fqR L (tbw px py p i), pR)) := by
  have x0 := hx (i - 1) (by omega)
  have x1 := hx i him
  have y0 := hy (i - 1) (by omega)
  have y1 := hy i him
  have e1 : nI (a + i) - 1 = nI (a + (i - 1)) := by
    rw [show (1 : Int32) = nI 1 from rfl, nI_sub (by omega), show a + i - 1 = a + (i - 1) by omega]
  have jn : j_in (nI (a + (i - 1))) 120 = true := j_in_nI (by omega) (by decide)
  have jm : j_in (nI (a + i)) 120 = true := j_in_nI (by omega) (by decide)
  have c31 : ∀ q j, fqR L q 31 j = L 31 j := fun q j => by rw [fqR_c _ (by decide)]
  have c32 : ∀ q j, fqR L q 32 j = L 32 j := fun q j => by rw [fqR_c _ (by decide)]
  have b1 := fA_b 1 p.1 p.2 (px (i - 1)) 1
  obtain ⟨z1, r1⟩ := act_r (e := e) (J := j_up J 0 53 x) (L' := fqR L q0) (k := 1) (by decide) hp.1 hp.d x0.2.b fB1
  rw [j_up2, fqR_fqR] at r1
  obtain ⟨z2, r2⟩ := act_r (e := e) (J := j_up J 0 53 z1) (L' := fqR L (fA 1 p.1 p.2 (px (i - 1)) 1)) (k := 1) (by decide) y1.2.b fB1 y0.2.b fB1
  rw [j_up2, fqR_fqR, fA_int y1.2.b y0.2.b (sub_b y1.2 y0.2)] at r2
  have b2 := fA_b 2 (fA 1 p.1 p.2 (px (i - 1)) 1).1 (fA 1 p.1 p.2 (px (i - 1)) 1).2 (py i - py (i - 1)) 1
  obtain ⟨z3, r3⟩ := act_r (e := e) (J := j_up J 0 53 z2) (L' := fqR L (py i - py (i - 1), 1)) (k := 2) (by decide) b1.1 (fN.d b1) (sub_b y1.2 y0.2) fB1
  rw [j_up2, fqR_fqR] at r3
  obtain ⟨z4, r4⟩ := act_r (e := e) (J := j_up J 0 53 z3) (L' := fqR L (fA 2 (fA 1 p.1 p.2 (px (i - 1)) 1).1 (fA 1 p.1 p.2 (px (i - 1)) 1).2 (py i - py (i - 1)) 1)) (k := 1) (by decide) x1.2.b fB1 x0.2.b fB1
  rw [j_up2, fqR_fqR, fA_int x1.2.b x0.2.b (sub_b x1.2 x0.2)] at r4
  have b3 := fA_b 3 (fA 2 (fA 1 p.1 p.2 (px (i - 1)) 1).1 (fA 1 p.1 p.2 (px (i - 1)) 1).2 (py i - py (i - 1)) 1).1 (fA 2 (fA 1 p.1 p.2 (px (i - 1)) 1).1 (fA 1 p.1 p.2 (px (i - 1)) 1).2 (py i - py (i - 1)) 1).2 (px i - px (i - 1)) 1
  obtain ⟨z5, r5⟩ := act_r (e := e) (J := j_up J 0 53 z4) (L' := fqR L (px i - px (i - 1), 1)) (k := 3) (by decide) b2.1 (fN.d b2) (sub_b x1.2 x0.2) fB1
  rw [j_up2, fqR_fqR] at r5
  obtain ⟨z6, r6⟩ := act_r (e := e) (J := j_up J 0 53 z5) (L' := fqR L (fA 3 (fA 2 (fA 1 p.1 p.2 (px (i - 1)) 1).1 (fA 1 p.1 p.2 (px (i - 1)) 1).2 (py i - py (i - 1)) 1).1 (fA 2 (fA 1 p.1 p.2 (px (i - 1)) 1).1 (fA 1 p.1 p.2 (px (i - 1)) 1).2 (py i - py (i - 1)) 1).2 (px i - px (i - 1)) 1)) (k := 0) (by decide) b3.1 (fN.d b3) y0.2.b fB1
  rw [j_up2, fqR_fqR] at r6
  refine ⟨z6, ?_⟩
  rw [jgo_some (d := e + 2) rfl r1]
  dsimp only [Option.toList_some, Option.toList_none, List.cons_append, List.nil_append]
  rw [B287_147, if_pos jm, e1, if_pos jn, nI_clamp (by omega), nI_clamp (n := a + (i - 1)) (by omega), c32, c32, y1.1, y0.1, fqR_54, fqR_55]
  rw [jgo_some (d := e + 2) rfl r2]
  dsimp only [Option.toList_some, Option.toList_none, List.cons_append, List.nil_append]
  rw [B287_183, fqR_54, fqR_55]
  rw [jgo_some (d := e + 2) rfl r3]
  dsimp only [Option.toList_some, Option.toList_none, List.cons_append, List.nil_append]
  rw [B287_201, if_pos jm, e1, if_pos jn, nI_clamp (by omega), nI_clamp (n := a + (i - 1)) (by omega), c31, c31, x1.1, x0.1, fqR_54, fqR_55]
  rw [jgo_some (d := e + 2) rfl r4]
  dsimp only [Option.toList_some, Option.toList_none, List.cons_append, List.nil_append]
  rw [B287_237, fqR_54, fqR_55]
  rw [jgo_some (d := e + 2) rfl r5]
  dsimp only [Option.toList_some, Option.toList_none, List.cons_append, List.nil_append]
  rw [B287_255, e1, if_pos jn, nI_clamp (n := a + (i - 1)) (by omega), c32, y0.1, fqR_54, fqR_55]
  rw [jgo_some (d := e + 2) rfl r6]
  dsimp only [Option.toList_some, Option.toList_none, List.cons_append, List.nil_append]
  rw [B287_279]
  rfl
/-- from the second point on -/
theorem tgo_r {e : Nat} {l1 : Int32} (hp : fN p) (ha : a + m ≤ 96) (hx : ∀ j, j < m → L 31 (a + j) = lI (px j) ∧ sml (px j)) (hy : ∀ j, j < m → L 32 (a + j) = lI (py j) ∧ sml (py j)) : ∀ r i x l8, 0 < i → i + r = m → ∃ y, jv (e + 3) 287 75 [some (.ref 0), some (.int l1), some (.long (lI p.1)), none, some (.long (lI p.2)), none, some (.int (nI a)), some (.int (nI (a + m))), some (.int l8), some (.int (nI (a + i))), none, none, none, none] [] (shR, j_up J 0 53 x, fqR L (0, 0), pR) = some (none, (shR, j_up J 0 53 y, fqR L (tgo px py p r i (py (i - 1), 1)), pR)) := by
  have c31 : ∀ q j, fqR L q 31 j = L 31 j := fun q j => by rw [fqR_c _ (by decide)]
  have c32 : ∀ q j, fqR L q 32 j = L 32 j := fun q j => by rw [fqR_c _ (by decide)]
  intro r
  induction r with
  | zero =>
    intro i x l8 hi him
    have y0 := hy (i - 1) (by omega)
    have w1 := whole_r (e := e) (J := j_up J 0 53 x) (L := fqR L (0, 0)) y0.2.b
    rw [j_up2, fqR_fqR] at w1
    refine ⟨0, ?_⟩
    have e1 : nI (a + m) - 1 = nI (a + (i - 1)) := by
      rw [show (1 : Int32) = nI 1 from rfl, nI_sub (by omega), show a + m - 1 = a + (i - 1) by omega]
    rw [B287_75, if_neg (show ¬ nI (a + i) < nI (a + m) from nI_nlt (by omega) (by omega)), e1, if_pos (j_in_nI (by omega) (by decide)), nI_clamp (by omega), c32, y0.1, jgo_some (d := e + 2) rfl w1]
    dsimp only [Option.toList_some, Option.toList_none, List.cons_append, List.nil_append]
    rw [B287_299]
    rfl
  | succ r ih =>
    intro i x l8 hi him
    have x1 := hx i (by omega)
    have y1 := hy i (by omega)
    have jm : j_in (nI (a + i)) 120 = true := j_in_nI (by omega) (by decide)
    obtain ⟨z1, r1⟩ := cmp3_r (e := e + 1) (J := j_up J 0 53 x) (L' := fqR L (0, 0)) hp.1 hp.d x1.2.b fB1
    rw [j_up2] at r1
    have e1 : nI (a + i) - 1 = nI (a + (i - 1)) := by
      rw [show (1 : Int32) = nI 1 from rfl, nI_sub (by omega), show a + i - 1 = a + (i - 1) by omega]
    have run : jv (e + 3) 287 75 [some (.ref 0), some (.int l1), some (.long (lI p.1)), none, some (.long (lI p.2)), none, some (.int (nI a)), some (.int (nI (a + m))), some (.int l8), some (.int (nI (a + i))), none, none, none, none] [] (shR, j_up J 0 53 x, fqR L (0, 0), pR) = jv (e + 3) 287 97 [some (.ref 0), some (.int l1), some (.long (lI p.1)), none, some (.long (lI p.2)), none, some (.int (nI a)), some (.int (nI (a + m))), some (.int l8), some (.int (nI (a + i))), none, none, none, none] [.int (fC p.1 p.2 (px i) 1)] (shR, j_up J 0 53 z1, fqR L (0, 0), pR) := by
      rw [B287_75, if_pos (show nI (a + i) < nI (a + m) from nI_lt (by omega) (by omega)), if_pos jm, nI_clamp (by omega), c31, x1.1]
      rw [jgo_some (d := e + 2) rfl r1]
      rfl
    rw [run, B287_97]
    unfold tgo
    rcases fC_v p.1 p.2 (px i) 1 with z | z | z | z
    · refine ⟨z1, ?_⟩
      rw [z, if_pos rfl, if_pos rfl]
    · obtain ⟨y, w⟩ := tbw_r (e := e) (J := J) (x := z1) (l1 := l1) (l6 := nI a) (l7 := nI (a + m)) (l8 := -1) (o10 := none) (o11 := none) (o12 := none) (o13 := none) hp ha hx hy hi (show i < m by omega) (q0 := (0, 0))
      refine ⟨y, ?_⟩
      rw [z, if_neg (show ¬ ((-1 : Int32) = 2) by decide), if_neg (show ¬ ((-1 : Int32) = 0) by decide), if_pos (show (-1 : Int32) < 0 by decide), e1, if_pos (j_in_nI (by omega) (by decide)), nI_clamp (n := a + (i - 1)) (by omega), c31, (hx (i - 1) (by omega)).1]
      try rw [if_neg (show ¬ ((-1 : Int32) = 2) by decide)]
      rw [if_pos (show (-1 : Int32) = -1 ∧ 0 < i from ⟨rfl, hi⟩)]
      exact w
    · have w1 := whole_r (e := e) (J := j_up J 0 53 z1) (L := fqR L (0, 0)) y1.2.b
      rw [j_up2, fqR_fqR] at w1
      refine ⟨0, ?_⟩
      rw [z, if_neg (show ¬ ((0 : Int32) = 2) by decide), if_pos rfl, if_pos jm, nI_clamp (n := a + i) (by omega), c32, y1.1, jgo_some (d := e + 2) rfl w1]
      dsimp only [Option.toList_some, Option.toList_none, List.cons_append, List.nil_append]
      rw [B287_122]
      try rw [if_neg (show ¬ ((0 : Int32) = 2) by decide)]
      rw [if_neg (show ¬ ((0 : Int32) = -1 ∧ 0 < i) from fun q => absurd q.1 (by decide)), if_neg (show ¬ ((0 : Int32) = 1) by decide)]
    · obtain ⟨y, w⟩ := ih (i + 1) z1 1 (by omega) (by omega)
      refine ⟨y, ?_⟩
      rw [z, if_neg (show ¬ ((1 : Int32) = 2) by decide), if_neg (show ¬ ((1 : Int32) = 0) by decide), if_neg (show ¬ ((1 : Int32) < 0) by decide), show nI (a + i) + 1 = nI (a + (i + 1)) from nI_add _ 1, w]
      try rw [if_neg (show ¬ ((1 : Int32) = 2) by decide)]
      rw [if_neg (show ¬ ((1 : Int32) = -1 ∧ 0 < i) from fun q => absurd q.1 (by decide)), if_pos rfl]
      rfl
/-- a table looked up, second one -/
theorem tbl_r {e : Nat} (hp : fN p) (ht : t < 8) (hm : 1 ≤ m) (ha : a + m ≤ 96) (h29 : J 29 t = nI a) (h30 : J 30 t = nI (a + m)) (hx : ∀ j, j < m → L 31 (a + j) = lI (px j) ∧ sml (px j)) (hy : ∀ j, j < m → L 32 (a + j) = lI (py j) ∧ sml (py j)) : ∃ y, jv (e + 3) 287 0 [some (.ref 0), some (.int (nI t)), some (.long (lI p.1)), none, some (.long (lI p.2)), none, none, none, none, none, none, none, none, none] [] (shR, J, L, pR) = some (none, (shR, j_up J 0 53 y, fqR L (tbl m px py p), pR)) := by
  have c31 : ∀ q j, fqR L q 31 j = L 31 j := fun q j => by rw [fqR_c _ (by decide)]
  have c32 : ∀ q j, fqR L q 32 j = L 32 j := fun q j => by rw [fqR_c _ (by decide)]
  have x1 := hx 0 (by omega)
  have y1 := hy 0 (by omega)
  rw [Nat.add_zero] at x1 y1
  have jt : j_in (nI t) 9 = true := j_in_nI (by omega) (by decide)
  have jm : j_in (nI a) 120 = true := j_in_nI (by omega) (by decide)
  have go : jv (e + 3) 287 0 [some (.ref 0), some (.int (nI t)), some (.long (lI p.1)), none, some (.long (lI p.2)), none, none, none, none, none, none, none, none, none] [] (shR, J, L, pR) = jv (e + 3) 287 4 [some (.ref 0), some (.int (nI t)), some (.long (lI p.1)), none, some (.long (lI p.2)), none, none, none, none, none, none, none, none, none] [] (shR, J, fqR L (0, 0), pR) := by
    rw [B287_0, jgo_some (d := e + 2) rfl und_r]
    rfl
  obtain ⟨m', rfl⟩ : ∃ m', m = m' + 1 := ⟨m - 1, by omega⟩
  by_cases q0 : p.2 = 0
  · refine ⟨J 0 53, ?_⟩
    rw [j_up_id, go, B287_4, if_pos jt, if_pos jt, if_pos ((lI_0 hp.d).mpr q0)]
    unfold tbl tgo
    rw [if_pos (show fC p.1 p.2 (px 0) 1 = 2 by unfold fC; rw [if_pos (Or.inl q0)])]
  obtain ⟨z1, r1⟩ := cmp3_r (e := e + 1) (J := J) (L' := fqR L (0, 0)) hp.1 hp.d x1.2.b fB1
  have run : jv (e + 3) 287 0 [some (.ref 0), some (.int (nI t)), some (.long (lI p.1)), none, some (.long (lI p.2)), none, none, none, none, none, none, none, none, none] [] (shR, J, L, pR) = jv (e + 3) 287 43 [some (.ref 0), some (.int (nI t)), some (.long (lI p.1)), none, some (.long (lI p.2)), none, some (.int (nI a)), some (.int (nI (a + (m' + 1)))), none, none, none, none, none, none] [.int (fC p.1 p.2 (px 0) 1)] (shR, j_up J 0 53 z1, fqR L (0, 0), pR) := by
    rw [go, B287_4, if_pos jt, if_pos jt, if_neg (fun y => q0 ((lI_0 hp.d).mp y)), nI_clamp (n := t) (by omega), h29, h30, if_pos jm, nI_clamp (n := a) (by omega), c31, x1.1]
    rw [jgo_some (d := e + 2) rfl r1]
    rfl
  rw [run, B287_43]
  unfold tbl tgo
  have first : jgo jTT jMM (e + 3) 288 [.ref 0, .long (lI (py 0))] (shR, j_up J 0 53 z1, fqR L (0, 0), pR) (fun v S => jv (e + 3) 287 68 [some (.ref 0), some (.int (nI t)), some (.long (lI p.1)), none, some (.long (lI p.2)), none, some (.int (nI a)), some (.int (nI (a + (m' + 1)))), some (.int (fC p.1 p.2 (px 0) 1)), none, none, none, none, none] (v.toList ++ []) S) = some (none, (shR, j_up J 0 53 0, fqR L (py 0, 1), pR)) := by
    have w1 := whole_r (e := e) (J := j_up J 0 53 z1) (L := fqR L (0, 0)) y1.2.b
    rw [j_up2, fqR_fqR] at w1
    rw [jgo_some (d := e + 2) rfl w1]
    dsimp only [Option.toList_some, Option.toList_none, List.cons_append, List.nil_append]
    rw [B287_68]
  rcases fC_v p.1 p.2 (px 0) 1 with z | z | z | z
  · refine ⟨z1, ?_⟩
    rw [z, if_pos rfl, if_pos rfl]
  · refine ⟨0, ?_⟩
    rw [z] at first
    rw [z, if_neg (show ¬ ((-1 : Int32) = 2) by decide), if_neg (show ¬ ((0 : Int32) < -1) by decide), if_pos jm, nI_clamp (n := a) (by omega), c32, y1.1, first]
    try rw [if_neg (show ¬ ((-1 : Int32) = 2) by decide)]
    rw [if_neg (show ¬ ((-1 : Int32) = -1 ∧ 0 < 0) from fun q => absurd q.2 (by decide)), if_neg (show ¬ ((-1 : Int32) = 1) by decide)]
  · refine ⟨0, ?_⟩
    rw [z] at first
    rw [z, if_neg (show ¬ ((0 : Int32) = 2) by decide), if_neg (show ¬ ((0 : Int32) < 0) by decide), if_pos jm, nI_clamp (n := a) (by omega), c32, y1.1, first]
    try rw [if_neg (show ¬ ((0 : Int32) = 2) by decide)]
    rw [if_neg (show ¬ ((0 : Int32) = -1 ∧ 0 < 0) from fun q => absurd q.2 (by decide)), if_neg (show ¬ ((0 : Int32) = 1) by decide)]
  · obtain ⟨y, w⟩ := tgo_r (e := e) (J := J) (l1 := nI t) hp ha hx hy m' 1 z1 1 (by decide) (by omega)
    refine ⟨y, ?_⟩
    rw [z, if_neg (show ¬ ((1 : Int32) = 2) by decide), if_pos (show (0 : Int32) < 1 by decide), show nI a + 1 = nI (a + 1) from nI_add _ 1, w]
    try rw [if_neg (show ¬ ((1 : Int32) = 2) by decide)]
    rw [if_neg (show ¬ ((1 : Int32) = -1 ∧ 0 < 0) from fun q => absurd q.2 (by decide)), if_pos rfl]
end EVAR
