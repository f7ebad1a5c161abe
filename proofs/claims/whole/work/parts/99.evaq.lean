/-! RULES: tables -/
section EVAQ
/-- a table's number -/
abbrev sml (z : Int) : Prop := -1000000000 < z ∧ z < 1000000000
theorem sml.b {z : Int} (h : sml z) : fB z := ⟨by have : HG = 1000000000000000000 := rfl; have := h.1; omega, by have : HG = 1000000000000000000 := rfl; have := h.2; omega⟩
theorem t64 {x : Int32} {z : Int} (h : x.toInt = z) : x.toInt64 = lI z := by
  rw [← lI_of x.toInt64, Int32.toInt_toInt64, h]
theorem t64s {x y : Int32} {z w : Int} (h : x.toInt = z) (h2 : y.toInt = w) (hz : sml z) (hw : sml w) : (x - y).toInt64 = lI (z - w) := by
  apply t64
  rw [Int32.toInt_sub, h, h2]
  have := hz.1; have := hz.2; have := hw.1; have := hw.2
  exact Int.bmod_eq_of_le (by omega) (by omega)
theorem sub_b {z w : Int} (hz : sml z) (hw : sml w) : fB (z - w) := ⟨by have : HG = 1000000000000000000 := rfl; have := hz.1; have := hw.2; omega, by have : HG = 1000000000000000000 := rfl; have := hz.2; have := hw.1; omega⟩
theorem fB1 : fB 1 := ⟨by decide, by decide⟩
variable {m t : Nat} {px py : Nat → Int} {p : Int × Int}
variable {I : Nat → Nat → Int32} {L : Nat → Nat → Int64} {pa pb pu : Option Nat}
/-- between two points, first one -/
theorem tbw_c38 {d i : Nat} {Lx : Nat → Nat → Int64} (hL : ∀ q, fqC Lx q = fqC L q) (hp : fN p) (ht : t < 8) (hm : m ≤ 12) (hx : ∀ j, j < m → (I 46 (12 * t + j)).toInt = px j ∧ sml (px j)) (hy : ∀ j, j < m → (I 47 (12 * t + j)).toInt = py j ∧ sml (py j)) (hi : 0 < i) (him : i < m) : jv (d + 3) 154 0 [some (.ref 116), some (.int (nI (12 * t + i))), some (.long (lI p.1)), none, some (.long (lI p.2)), none] [] (shC, I, Lx, pX pa pb pu (some 38)) = some (none, (shC, I, fqC L (tbw px py p i), pX pa pb pu (some 38))) := by
  have x0 := hx (i - 1) (by omega)
  have x1 := hx i him
  have y0 := hy (i - 1) (by omega)
  have y1 := hy i him
  have e1 : nI (12 * t + i) - 1 = nI (12 * t + (i - 1)) := by
    rw [show (1 : Int32) = nI 1 from rfl, nI_sub (by omega), show 12 * t + i - 1 = 12 * t + (i - 1) by omega]
  have jn : j_in (nI (12 * t + (i - 1))) 96 = true := j_in_nI (by omega) (by decide)
  have jm : j_in (nI (12 * t + i)) 96 = true := j_in_nI (by omega) (by decide)
  have b1 := fA_b 1 p.1 p.2 (px (i - 1)) 1
  have r1 := act_c (d := d) (I := I) (L := Lx) (pa := pa) (pb := pb) (pu := pu) (pw := some 38) (k := 1) (by decide) hp.1 hp.d x0.2.b fB1
  rw [B154_0_g38, e1, if_pos jn, nI_clamp (by omega), t64 x0.1]
  rw [jgo_some (d := d + 2) rfl r1]
  dsimp only [Option.toList_some, Option.toList_none, List.cons_append, List.nil_append]
  have b2 := fA_b 2 (fA 1 p.1 p.2 (px (i - 1)) 1).1 (fA 1 p.1 p.2 (px (i - 1)) 1).2 (py i - py (i - 1)) 1
  have r2 := act_c (d := d) (I := I) (L := fqC Lx (fA 1 p.1 p.2 (px (i - 1)) 1)) (pa := pa) (pb := pb) (pu := pu) (pw := some 38) (k := 2) (by decide) b1.1 (fN.d b1) (sub_b y1.2 y0.2) fB1
  rw [B154_22_g38, if_pos jm, e1, if_pos jn, nI_clamp (by omega), nI_clamp (n := 12 * t + (i - 1)) (by omega), t64s y1.1 y0.1 y1.2 y0.2, fqC_6, fqC_7]
  rw [jgo_some (d := d + 2) rfl r2]
  dsimp only [Option.toList_some, Option.toList_none, List.cons_append, List.nil_append]
  have b3 := fA_b 3 (fA 2 (fA 1 p.1 p.2 (px (i - 1)) 1).1 (fA 1 p.1 p.2 (px (i - 1)) 1).2 (py i - py (i - 1)) 1).1 (fA 2 (fA 1 p.1 p.2 (px (i - 1)) 1).1 (fA 1 p.1 p.2 (px (i - 1)) 1).2 (py i - py (i - 1)) 1).2 (px i - px (i - 1)) 1
  have r3 := act_c (d := d) (I := I) (L := fqC (fqC Lx (fA 1 p.1 p.2 (px (i - 1)) 1)) (fA 2 (fA 1 p.1 p.2 (px (i - 1)) 1).1 (fA 1 p.1 p.2 (px (i - 1)) 1).2 (py i - py (i - 1)) 1)) (pa := pa) (pb := pb) (pu := pu) (pw := some 38) (k := 3) (by decide) b2.1 (fN.d b2) (sub_b x1.2 x0.2) fB1
  rw [B154_59_g38, if_pos jm, e1, if_pos jn, nI_clamp (by omega), nI_clamp (n := 12 * t + (i - 1)) (by omega), t64s x1.1 x0.1 x1.2 x0.2, fqC_6, fqC_7]
  rw [jgo_some (d := d + 2) rfl r3]
  dsimp only [Option.toList_some, Option.toList_none, List.cons_append, List.nil_append]
  have r4 := act_c (d := d) (I := I) (L := fqC (fqC (fqC Lx (fA 1 p.1 p.2 (px (i - 1)) 1)) (fA 2 (fA 1 p.1 p.2 (px (i - 1)) 1).1 (fA 1 p.1 p.2 (px (i - 1)) 1).2 (py i - py (i - 1)) 1)) (fA 3 (fA 2 (fA 1 p.1 p.2 (px (i - 1)) 1).1 (fA 1 p.1 p.2 (px (i - 1)) 1).2 (py i - py (i - 1)) 1).1 (fA 2 (fA 1 p.1 p.2 (px (i - 1)) 1).1 (fA 1 p.1 p.2 (px (i - 1)) 1).2 (py i - py (i - 1)) 1).2 (px i - px (i - 1)) 1)) (pa := pa) (pb := pb) (pu := pu) (pw := some 38) (k := 0) (by decide) b3.1 (fN.d b3) y0.2.b fB1
  rw [B154_96_g38, e1, if_pos jn, nI_clamp (n := 12 * t + (i - 1)) (by omega), t64 y0.1, fqC_6, fqC_7]
  rw [jgo_some (d := d + 2) rfl r4]
  dsimp only [Option.toList_some, Option.toList_none, List.cons_append, List.nil_append]
  rw [B154_123_g38, fqC_fqC, fqC_fqC, fqC_fqC, hL]
  rfl
/-- a table looked up, first one -/
theorem tgo_c38 {d : Nat} (hp : fN p) (ht : t < 8) (hm : m ≤ 12) (hx : ∀ j, j < m → (I 46 (12 * t + j)).toInt = px j ∧ sml (px j)) (hy : ∀ j, j < m → (I 47 (12 * t + j)).toInt = py j ∧ sml (py j)) : ∀ r i a Lx o9, i + r = m → (∀ q, fqC Lx q = fqC L q) → (r = 0 → Lx = fqC L a) → jv (d + 4) 153 32 [some (.ref 116), some (.int (nI t)), some (.long (lI p.1)), none, some (.long (lI p.2)), none, some (.int (nI (12 * t))), some (.int (nI m)), some (.int (nI (12 * t + i))), o9] [] (shC, I, Lx, pX pa pb pu (some 38)) = some (none, (shC, I, fqC L (tgo px py p r i a), pX pa pb pu (some 38))) := by
  intro r
  induction r with
  | zero =>
    intro i a Lx o9 hi hL h0
    rw [B153_32_g38, nI_add, if_neg (show ¬ nI (12 * t + i) < nI (12 * t + m) from nI_nlt (by omega) (by omega)), h0 rfl]
    rfl
  | succ r ih =>
    intro i a Lx o9 hi hL h0
    have x1 := hx i (by omega)
    have y1 := hy i (by omega)
    have jm : j_in (nI (12 * t + i)) 96 = true := j_in_nI (by omega) (by decide)
    have c1 := cmp3_c (d := d + 1) (I := I) (L := Lx) (pa := pa) (pb := pb) (pu := pu) (pw := some 38) hp.1 hp.d x1.2.b fB1
    rw [B153_32_g38, nI_add, if_pos (show nI (12 * t + i) < nI (12 * t + m) from nI_lt (by omega) (by omega)), if_pos jm, nI_clamp (by omega), t64 x1.1]
    rw [jgo_some (d := d + 3) rfl c1]
    dsimp only [Option.toList_some, Option.toList_none, List.cons_append, List.nil_append]
    rw [B153_60_g38]
    have set : ∀ (v : Int32), jv (d + 4) 153 95 [some (.ref 116), some (.int (nI t)), some (.long (lI p.1)), none, some (.long (lI p.2)), none, some (.int (nI (12 * t))), some (.int (nI m)), some (.int (nI (12 * t + i))), some (.int v)] [] (shC, I, Lx, pX pa pb pu (some 38)) = if (0 : Int32) < v then jv (d + 4) 153 32 [some (.ref 116), some (.int (nI t)), some (.long (lI p.1)), none, some (.long (lI p.2)), none, some (.int (nI (12 * t))), some (.int (nI m)), some (.int (nI (12 * t + (i + 1)))), some (.int v)] [] (shC, I, fqC L (py i, 1), pX pa pb pu (some 38)) else some (none, (shC, I, fqC L (py i, 1), pX pa pb pu (some 38))) := by
      intro v
      have s1 := set_c (d := d + 2) (I := I) (L := Lx) (pa := pa) (pb := pb) (pu := pu) (pw := some 38) (lI (py i)) 1
      rw [y1.2.b.i, show (1 : Int64).toInt = 1 from rfl, fS_1 y1.2.b, hL] at s1
      rw [B153_95_g38, if_pos jm, nI_clamp (by omega), t64 y1.1, jgo_some (d := d + 3) rfl s1]
      dsimp only [Option.toList_some, Option.toList_none, List.cons_append, List.nil_append]
      rw [B153_111_g38, show nI (12 * t + i) + 1 = nI (12 * t + (i + 1)) from nI_add _ 1]
    unfold tgo
    rcases fC_v p.1 p.2 (px i) 1 with z | z | z | z
    · rw [z, if_pos rfl, jgo_some (d := d + 3) rfl und_c]
      dsimp only [Option.toList_some, Option.toList_none, List.cons_append, List.nil_append]
      rw [B153_72_g38, hL, if_pos rfl]
    · rw [z, if_neg (show ¬ ((-1 : Int32) = 2) by decide), if_pos (show (-1 : Int32) < 0 by decide)]
      try rw [if_neg (show ¬ ((-1 : Int32) = 2) by decide)]
      by_cases y : 0 < i
      · rw [if_pos (show nI (12 * t) < nI (12 * t + i) from nI_lt (by omega) (by omega)), jgo_some (d := d + 3) rfl (tbw_c38 (d := d) hL hp ht hm hx hy y (by omega))]
        dsimp only [Option.toList_some, Option.toList_none, List.cons_append, List.nil_append]
        rw [B153_94_g38, if_pos ⟨rfl, y⟩]
      · rw [if_neg (show ¬ nI (12 * t) < nI (12 * t + i) from nI_nlt (by omega) (by omega)), set, if_neg (show ¬ ((0 : Int32) < -1) by decide), if_neg (show ¬ ((-1 : Int32) = -1 ∧ 0 < i) from fun q => y q.2), if_neg (show ¬ ((-1 : Int32) = 1) by decide)]
    · rw [z, if_neg (show ¬ ((0 : Int32) = 2) by decide), if_neg (show ¬ ((0 : Int32) < 0) by decide), set, if_neg (show ¬ ((0 : Int32) < 0) by decide)]
      try rw [if_neg (show ¬ ((0 : Int32) = 2) by decide)]
      rw [if_neg (show ¬ ((0 : Int32) = -1 ∧ 0 < i) from fun q => absurd q.1 (by decide)), if_neg (show ¬ ((0 : Int32) = 1) by decide)]
    · rw [z, if_neg (show ¬ ((1 : Int32) = 2) by decide), if_neg (show ¬ ((1 : Int32) < 0) by decide), set, if_pos (show (0 : Int32) < 1 by decide), ih (i + 1) (py i, 1) _ _ (by omega) (fun q => fqC_fqC _ _ _) (fun _ => rfl)]
      try rw [if_neg (show ¬ ((1 : Int32) = 2) by decide)]
      rw [if_neg (show ¬ ((1 : Int32) = -1 ∧ 0 < i) from fun q => absurd q.1 (by decide)), if_pos rfl]
theorem tbl_c38 {d : Nat} (hp : fN p) (ht : t < 8) (hm0 : 1 ≤ m) (hm : m ≤ 12) (hn : I 48 t = nI m) (hx : ∀ j, j < m → (I 46 (12 * t + j)).toInt = px j ∧ sml (px j)) (hy : ∀ j, j < m → (I 47 (12 * t + j)).toInt = py j ∧ sml (py j)) (h6 : L 116 6 = lI p.1) (h7 : L 116 7 = lI p.2) : jv (d + 4) 153 0 [some (.ref 116), some (.int (nI t)), none, none, none, none, none, none, none, none] [] (shC, I, L, pX pa pb pu (some 38)) = some (none, (shC, I, fqC L (tbl m px py p), pX pa pb pu (some 38))) := by
  rw [B153_0_g38, if_pos (j_in_nI ht (by decide)), nI_clamp (by omega), hn, h6, h7, show nI t * 12 = nI (12 * t) by rw [show nI t * 12 = nI (t * 12) from nI_mul t 12, Nat.mul_comm]]
  exact tgo_c38 hp ht hm hx hy m 0 (0, 0) L none (by omega) (fun _ => rfl) (fun z => by omega)
/-- between two points, first one -/
theorem tbw_c49 {d i : Nat} {Lx : Nat → Nat → Int64} (hL : ∀ q, fqC Lx q = fqC L q) (hp : fN p) (ht : t < 8) (hm : m ≤ 12) (hx : ∀ j, j < m → (I 57 (12 * t + j)).toInt = px j ∧ sml (px j)) (hy : ∀ j, j < m → (I 58 (12 * t + j)).toInt = py j ∧ sml (py j)) (hi : 0 < i) (him : i < m) : jv (d + 3) 154 0 [some (.ref 116), some (.int (nI (12 * t + i))), some (.long (lI p.1)), none, some (.long (lI p.2)), none] [] (shC, I, Lx, pX pa pb pu (some 49)) = some (none, (shC, I, fqC L (tbw px py p i), pX pa pb pu (some 49))) := by
  have x0 := hx (i - 1) (by omega)
  have x1 := hx i him
  have y0 := hy (i - 1) (by omega)
  have y1 := hy i him
  have e1 : nI (12 * t + i) - 1 = nI (12 * t + (i - 1)) := by
    rw [show (1 : Int32) = nI 1 from rfl, nI_sub (by omega), show 12 * t + i - 1 = 12 * t + (i - 1) by omega]
  have jn : j_in (nI (12 * t + (i - 1))) 96 = true := j_in_nI (by omega) (by decide)
  have jm : j_in (nI (12 * t + i)) 96 = true := j_in_nI (by omega) (by decide)
  have b1 := fA_b 1 p.1 p.2 (px (i - 1)) 1
  have r1 := act_c (d := d) (I := I) (L := Lx) (pa := pa) (pb := pb) (pu := pu) (pw := some 49) (k := 1) (by decide) hp.1 hp.d x0.2.b fB1
  rw [B154_0_g49, e1, if_pos jn, nI_clamp (by omega), t64 x0.1]
  rw [jgo_some (d := d + 2) rfl r1]
  dsimp only [Option.toList_some, Option.toList_none, List.cons_append, List.nil_append]
  have b2 := fA_b 2 (fA 1 p.1 p.2 (px (i - 1)) 1).1 (fA 1 p.1 p.2 (px (i - 1)) 1).2 (py i - py (i - 1)) 1
  have r2 := act_c (d := d) (I := I) (L := fqC Lx (fA 1 p.1 p.2 (px (i - 1)) 1)) (pa := pa) (pb := pb) (pu := pu) (pw := some 49) (k := 2) (by decide) b1.1 (fN.d b1) (sub_b y1.2 y0.2) fB1
  rw [B154_22_g49, if_pos jm, e1, if_pos jn, nI_clamp (by omega), nI_clamp (n := 12 * t + (i - 1)) (by omega), t64s y1.1 y0.1 y1.2 y0.2, fqC_6, fqC_7]
  rw [jgo_some (d := d + 2) rfl r2]
  dsimp only [Option.toList_some, Option.toList_none, List.cons_append, List.nil_append]
  have b3 := fA_b 3 (fA 2 (fA 1 p.1 p.2 (px (i - 1)) 1).1 (fA 1 p.1 p.2 (px (i - 1)) 1).2 (py i - py (i - 1)) 1).1 (fA 2 (fA 1 p.1 p.2 (px (i - 1)) 1).1 (fA 1 p.1 p.2 (px (i - 1)) 1).2 (py i - py (i - 1)) 1).2 (px i - px (i - 1)) 1
  have r3 := act_c (d := d) (I := I) (L := fqC (fqC Lx (fA 1 p.1 p.2 (px (i - 1)) 1)) (fA 2 (fA 1 p.1 p.2 (px (i - 1)) 1).1 (fA 1 p.1 p.2 (px (i - 1)) 1).2 (py i - py (i - 1)) 1)) (pa := pa) (pb := pb) (pu := pu) (pw := some 49) (k := 3) (by decide) b2.1 (fN.d b2) (sub_b x1.2 x0.2) fB1
  rw [B154_59_g49, if_pos jm, e1, if_pos jn, nI_clamp (by omega), nI_clamp (n := 12 * t + (i - 1)) (by omega), t64s x1.1 x0.1 x1.2 x0.2, fqC_6, fqC_7]
  rw [jgo_some (d := d + 2) rfl r3]
  dsimp only [Option.toList_some, Option.toList_none, List.cons_append, List.nil_append]
  have r4 := act_c (d := d) (I := I) (L := fqC (fqC (fqC Lx (fA 1 p.1 p.2 (px (i - 1)) 1)) (fA 2 (fA 1 p.1 p.2 (px (i - 1)) 1).1 (fA 1 p.1 p.2 (px (i - 1)) 1).2 (py i - py (i - 1)) 1)) (fA 3 (fA 2 (fA 1 p.1 p.2 (px (i - 1)) 1).1 (fA 1 p.1 p.2 (px (i - 1)) 1).2 (py i - py (i - 1)) 1).1 (fA 2 (fA 1 p.1 p.2 (px (i - 1)) 1).1 (fA 1 p.1 p.2 (px (i - 1)) 1).2 (py i - py (i - 1)) 1).2 (px i - px (i - 1)) 1)) (pa := pa) (pb := pb) (pu := pu) (pw := some 49) (k := 0) (by decide) b3.1 (fN.d b3) y0.2.b fB1
  rw [B154_96_g49, e1, if_pos jn, nI_clamp (n := 12 * t + (i - 1)) (by omega), t64 y0.1, fqC_6, fqC_7]
  rw [jgo_some (d := d + 2) rfl r4]
  dsimp only [Option.toList_some, Option.toList_none, List.cons_append, List.nil_append]
  rw [B154_123_g49, fqC_fqC, fqC_fqC, fqC_fqC, hL]
  rfl
/-- a table looked up, first one -/
theorem tgo_c49 {d : Nat} (hp : fN p) (ht : t < 8) (hm : m ≤ 12) (hx : ∀ j, j < m → (I 57 (12 * t + j)).toInt = px j ∧ sml (px j)) (hy : ∀ j, j < m → (I 58 (12 * t + j)).toInt = py j ∧ sml (py j)) : ∀ r i a Lx o9, i + r = m → (∀ q, fqC Lx q = fqC L q) → (r = 0 → Lx = fqC L a) → jv (d + 4) 153 32 [some (.ref 116), some (.int (nI t)), some (.long (lI p.1)), none, some (.long (lI p.2)), none, some (.int (nI (12 * t))), some (.int (nI m)), some (.int (nI (12 * t + i))), o9] [] (shC, I, Lx, pX pa pb pu (some 49)) = some (none, (shC, I, fqC L (tgo px py p r i a), pX pa pb pu (some 49))) := by
  intro r
  induction r with
  | zero =>
    intro i a Lx o9 hi hL h0
    rw [B153_32_g49, nI_add, if_neg (show ¬ nI (12 * t + i) < nI (12 * t + m) from nI_nlt (by omega) (by omega)), h0 rfl]
    rfl
  | succ r ih =>
    intro i a Lx o9 hi hL h0
    have x1 := hx i (by omega)
    have y1 := hy i (by omega)
    have jm : j_in (nI (12 * t + i)) 96 = true := j_in_nI (by omega) (by decide)
    have c1 := cmp3_c (d := d + 1) (I := I) (L := Lx) (pa := pa) (pb := pb) (pu := pu) (pw := some 49) hp.1 hp.d x1.2.b fB1
    rw [B153_32_g49, nI_add, if_pos (show nI (12 * t + i) < nI (12 * t + m) from nI_lt (by omega) (by omega)), if_pos jm, nI_clamp (by omega), t64 x1.1]
    rw [jgo_some (d := d + 3) rfl c1]
    dsimp only [Option.toList_some, Option.toList_none, List.cons_append, List.nil_append]
    rw [B153_60_g49]
    have set : ∀ (v : Int32), jv (d + 4) 153 95 [some (.ref 116), some (.int (nI t)), some (.long (lI p.1)), none, some (.long (lI p.2)), none, some (.int (nI (12 * t))), some (.int (nI m)), some (.int (nI (12 * t + i))), some (.int v)] [] (shC, I, Lx, pX pa pb pu (some 49)) = if (0 : Int32) < v then jv (d + 4) 153 32 [some (.ref 116), some (.int (nI t)), some (.long (lI p.1)), none, some (.long (lI p.2)), none, some (.int (nI (12 * t))), some (.int (nI m)), some (.int (nI (12 * t + (i + 1)))), some (.int v)] [] (shC, I, fqC L (py i, 1), pX pa pb pu (some 49)) else some (none, (shC, I, fqC L (py i, 1), pX pa pb pu (some 49))) := by
      intro v
      have s1 := set_c (d := d + 2) (I := I) (L := Lx) (pa := pa) (pb := pb) (pu := pu) (pw := some 49) (lI (py i)) 1
      rw [y1.2.b.i, show (1 : Int64).toInt = 1 from rfl, fS_1 y1.2.b, hL] at s1
      rw [B153_95_g49, if_pos jm, nI_clamp (by omega), t64 y1.1, jgo_some (d := d + 3) rfl s1]
      dsimp only [Option.toList_some, Option.toList_none, List.cons_append, List.nil_append]
      rw [B153_111_g49, show nI (12 * t + i) + 1 = nI (12 * t + (i + 1)) from nI_add _ 1]
    unfold tgo
    rcases fC_v p.1 p.2 (px i) 1 with z | z | z | z
    · rw [z, if_pos rfl, jgo_some (d := d + 3) rfl und_c]
      dsimp only [Option.toList_some, Option.toList_none, List.cons_append, List.nil_append]
      rw [B153_72_g49, hL, if_pos rfl]
    · rw [z, if_neg (show ¬ ((-1 : Int32) = 2) by decide), if_pos (show (-1 : Int32) < 0 by decide)]
      try rw [if_neg (show ¬ ((-1 : Int32) = 2) by decide)]
      by_cases y : 0 < i
      · rw [if_pos (show nI (12 * t) < nI (12 * t + i) from nI_lt (by omega) (by omega)), jgo_some (d := d + 3) rfl (tbw_c49 (d := d) hL hp ht hm hx hy y (by omega))]
        dsimp only [Option.toList_some, Option.toList_none, List.cons_append, List.nil_append]
        rw [B153_94_g49, if_pos ⟨rfl, y⟩]
      · rw [if_neg (show ¬ nI (12 * t) < nI (12 * t + i) from nI_nlt (by omega) (by omega)), set, if_neg (show ¬ ((0 : Int32) < -1) by decide), if_neg (show ¬ ((-1 : Int32) = -1 ∧ 0 < i) from fun q => y q.2), if_neg (show ¬ ((-1 : Int32) = 1) by decide)]
    · rw [z, if_neg (show ¬ ((0 : Int32) = 2) by decide), if_neg (show ¬ ((0 : Int32) < 0) by decide), set, if_neg (show ¬ ((0 : Int32) < 0) by decide)]
      try rw [if_neg (show ¬ ((0 : Int32) = 2) by decide)]
      rw [if_neg (show ¬ ((0 : Int32) = -1 ∧ 0 < i) from fun q => absurd q.1 (by decide)), if_neg (show ¬ ((0 : Int32) = 1) by decide)]
    · rw [z, if_neg (show ¬ ((1 : Int32) = 2) by decide), if_neg (show ¬ ((1 : Int32) < 0) by decide), set, if_pos (show (0 : Int32) < 1 by decide), ih (i + 1) (py i, 1) _ _ (by omega) (fun q => fqC_fqC _ _ _) (fun _ => rfl)]
      try rw [if_neg (show ¬ ((1 : Int32) = 2) by decide)]
      rw [if_neg (show ¬ ((1 : Int32) = -1 ∧ 0 < i) from fun q => absurd q.1 (by decide)), if_pos rfl]
theorem tbl_c49 {d : Nat} (hp : fN p) (ht : t < 8) (hm0 : 1 ≤ m) (hm : m ≤ 12) (hn : I 59 t = nI m) (hx : ∀ j, j < m → (I 57 (12 * t + j)).toInt = px j ∧ sml (px j)) (hy : ∀ j, j < m → (I 58 (12 * t + j)).toInt = py j ∧ sml (py j)) (h6 : L 116 6 = lI p.1) (h7 : L 116 7 = lI p.2) : jv (d + 4) 153 0 [some (.ref 116), some (.int (nI t)), none, none, none, none, none, none, none, none] [] (shC, I, L, pX pa pb pu (some 49)) = some (none, (shC, I, fqC L (tbl m px py p), pX pa pb pu (some 49))) := by
  rw [B153_0_g49, if_pos (j_in_nI ht (by decide)), nI_clamp (by omega), hn, h6, h7, show nI t * 12 = nI (12 * t) by rw [show nI t * 12 = nI (t * 12) from nI_mul t 12, Nat.mul_comm]]
  exact tgo_c49 hp ht hm hx hy m 0 (0, 0) L none (by omega) (fun _ => rfl) (fun z => by omega)
end EVAQ
