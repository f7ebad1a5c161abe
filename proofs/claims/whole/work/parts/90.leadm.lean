/-! PIPES: the barred cells, class -/
section LEADM
variable {d : Nat} {L : Nat → Nat → Int64} {pa pb pu pw : Option Nat}
/-- a cell near another -/
def nr1 (g x y z c : Nat) : Prop := c % 20 ≤ x + g ∧ x ≤ c % 20 + g ∧ c / 20 % 10 ≤ y + g ∧ y ≤ c / 20 % 10 + g ∧ c / 200 ≤ z + g ∧ z ≤ c / 200 + g
theorem brC.cg {B B' : Nat → Prop} {I : Nat → Nat → Int32} (h : brC B I) (hB : ∀ c, c < 1600 → (B c ↔ B' c)) : brC B' I := fun c hc => by rw [h c hc, hB c hc]
theorem brC.set {B : Nat → Prop} {I : Nat → Nat → Int32} (h : brC B I) (y : Nat) : brC (fun c => B c ∨ c = y) (j_up I 102 y (vp_nar .byte 1)) := by
  intro c hc
  rw [j_up_own]
  by_cases q : c = y
  · rw [if_pos q]
    constructor
    · intro z; exact absurd z (by decide)
    · intro z; exact absurd (Or.inr q) z
  · rw [if_neg q, h c hc]
    constructor
    · intro z w; exact w.elim z q
    · intro z w; exact z (Or.inl w)
theorem at_c {I : Nat → Nat → Int32} (x y z : Nat) : jv d 81 0 [some (.int (nI x)), some (.int (nI y)), some (.int (nI z))] [] (shC, I, L, pX pa pb pu pw) = some (some (.int (nI (x + 20 * y + 200 * z))), (shC, I, L, pX pa pb pu pw)) := by
  rw [B81_0, show nI z * 10 = nI (z * 10) from nI_mul z 10, nI_add, show nI (z * 10 + y) * 20 = nI ((z * 10 + y) * 20) from nI_mul _ 20, nI_add, show (z * 10 + y) * 20 + x = x + 20 * y + 200 * z by omega]
theorem mx_0 {a g : Nat} (ha : a < 1000) (hg : g < 1000) : (if (0 : Int32) < nI a - nI g then nI a - nI g else 0) = nI (a - g) := by
  by_cases q : g < a
  · rw [if_pos (show (0 : Int32) < nI a - nI g from (zI_gt (c := 0) ha hg (by decide)).mpr (by omega)), nI_sub (by omega)]
  · rw [if_neg (show ¬ (0 : Int32) < nI a - nI g from fun z => by have := (zI_gt (c := 0) ha hg (by decide)).mp z; omega), show a - g = 0 by omega]
    rfl
theorem mn_m {a g m : Nat} (ha : a < 1000) (hg : g < 1000) (hm : m < 1000) : (if nI a + nI g < nI m then nI a + nI g else nI m) = nI (min (a + g) m) := by
  rw [nI_add]
  by_cases q : a + g < m
  · rw [if_pos (nI_lt q (by omega)), Nat.min_eq_left (by omega)]
  · rw [if_neg (nI_nlt (by omega) (by omega)), Nat.min_eq_right (by omega)]
theorem bu_c {B : Nat → Prop} {I : Nat → Nat → Int32} {g x y z v w : Nat} (l2 : Int32) (hg : g < 2) (hx : x < 20) (hv : v < 10) (hw : w < 8) (hb : brC B I) : ∃ I' o8, (∀ c, c ≠ 102 → I' c = I c) ∧ brC (fun c => B c ∨ (c / 200 = w ∧ c / 20 % 10 = v ∧ c % 20 ≤ x + g ∧ x ≤ c % 20 + g)) I' ∧ jv (d + 1) 83 107 [some (.ref 96), some (.int (nI g)), some (.int l2), some (.int (nI x)), some (.int (nI y)), some (.int (nI z)), some (.int (nI w)), some (.int (nI v)), some (.int (nI (x - g)))] [] (shC, I, L, pX pa pb pu pw) = jv (d + 1) 83 84 [some (.ref 96), some (.int (nI g)), some (.int l2), some (.int (nI x)), some (.int (nI y)), some (.int (nI z)), some (.int (nI w)), some (.int (nI (v + 1))), o8] [] (shC, I', L, pX pa pb pu pw) := by
  have e1 : (if nI x + nI g < 19 then nI x + nI g else 19) = nI (min (x + g) 19) := mn_m (m := 19) (by omega) (by omega) (by decide)
  obtain ⟨I', ⟨a1, a2⟩, a3⟩ := j_runP (α := Nat → Nat → Int32) (fun i I1 => jv (d + 1) 83 107 [some (.ref 96), some (.int (nI g)), some (.int l2), some (.int (nI x)), some (.int (nI y)), some (.int (nI z)), some (.int (nI w)), some (.int (nI v)), some (.int (nI (x - g + i)))] [] (shC, I1, L, pX pa pb pu pw)) (fun i I1 => (∀ c, c ≠ 102 → I1 c = I c) ∧ brC (fun c => B c ∨ (c / 200 = w ∧ c / 20 % 10 = v ∧ c % 20 < x - g + i ∧ x ≤ c % 20 + g)) I1) (min (x + g) 19 + 1 - (x - g)) (fun i hi I1 hI => by
    obtain ⟨b1, b2⟩ := hI
    try dsimp only
    refine ⟨j_up I1 102 (x - g + i + 20 * v + 200 * w) (vp_nar .byte 1), ⟨?_, ?_⟩, ?_⟩
    · exact fun c hc => by rw [j_up_cell _ hc, b1 c hc]
    · refine (b2.set _).cg (fun c hc => ?_)
      constructor
      · rintro ((h | h) | h)
        · exact Or.inl h
        · exact Or.inr (by omega)
        · exact Or.inr (by omega)
      · rintro (h | h)
        · exact Or.inl (Or.inl h)
        · by_cases q : c % 20 < x - g + i
          · exact Or.inl (Or.inr (by omega))
          · exact Or.inr (by omega)
    · rw [B83_107, e1, if_neg (nI_nlt (by omega) (by omega)), jgo_some rfl (at_c _ _ _)]
      dsimp only [Option.toList_some, List.cons_append, List.nil_append]
      rw [B83_133, if_pos (j_in_nI (by omega) (by decide)), nI_clamp (by omega), nI_1]
      rfl) I ⟨fun _ _ => rfl, hb.cg (fun c _ => ⟨Or.inl, fun h => h.elim id (fun h => by omega)⟩)⟩
  refine ⟨I', some (.int (nI (min (x + g) 19 + 1))), a1, a2.cg (fun c _ => ?_), (show _ = _ from a3).trans ?_⟩
  · constructor
    · rintro (h | h)
      · exact Or.inl h
      · exact Or.inr (by omega)
    · rintro (h | h)
      · exact Or.inl h
      · exact Or.inr (by omega)
  · rw [show x - g + (min (x + g) 19 + 1 - (x - g)) = min (x + g) 19 + 1 by omega, B83_107, e1, if_pos (nI_lt (by omega) (by omega)), nI_1]
theorem bv_c {B : Nat → Prop} {I : Nat → Nat → Int32} {g x y z w : Nat} (l2 : Int32) (hg : g < 2) (hx : x < 20) (hy : y < 10) (hw : w < 8) (hb : brC B I) (o8 : Option Value) : ∃ I' o7 o8', (∀ c, c ≠ 102 → I' c = I c) ∧ brC (fun c => B c ∨ (c / 200 = w ∧ c / 20 % 10 ≤ y + g ∧ y ≤ c / 20 % 10 + g ∧ c % 20 ≤ x + g ∧ x ≤ c % 20 + g)) I' ∧ jv (d + 1) 83 84 [some (.ref 96), some (.int (nI g)), some (.int l2), some (.int (nI x)), some (.int (nI y)), some (.int (nI z)), some (.int (nI w)), some (.int (nI (y - g))), o8] [] (shC, I, L, pX pa pb pu pw) = jv (d + 1) 83 60 [some (.ref 96), some (.int (nI g)), some (.int l2), some (.int (nI x)), some (.int (nI y)), some (.int (nI z)), some (.int (nI (w + 1))), o7, o8'] [] (shC, I', L, pX pa pb pu pw) := by
  have e1 : (if nI y + nI g < 9 then nI y + nI g else 9) = nI (min (y + g) 9) := mn_m (m := 9) (by omega) (by omega) (by decide)
  obtain ⟨⟨I', q8⟩, ⟨a1, a2⟩, a3⟩ := j_runP (α := (Nat → Nat → Int32) × Option Value) (fun i t => jv (d + 1) 83 84 [some (.ref 96), some (.int (nI g)), some (.int l2), some (.int (nI x)), some (.int (nI y)), some (.int (nI z)), some (.int (nI w)), some (.int (nI (y - g + i))), t.2] [] (shC, t.1, L, pX pa pb pu pw)) (fun i t => (∀ c, c ≠ 102 → t.1 c = I c) ∧ brC (fun c => B c ∨ (c / 200 = w ∧ c / 20 % 10 < y - g + i ∧ y ≤ c / 20 % 10 + g ∧ c % 20 ≤ x + g ∧ x ≤ c % 20 + g)) t.1) (min (y + g) 9 + 1 - (y - g)) (fun i hi t hI => by
    obtain ⟨I1, q8⟩ := t
    obtain ⟨b1, b2⟩ := hI
    dsimp only at b1 b2 ⊢
    obtain ⟨I2, o8', c1, c2, c3⟩ := bu_c (d := d) (L := L) (pa := pa) (pb := pb) (pu := pu) (pw := pw) (y := y) (z := z) l2 hg hx (by omega : y - g + i < 10) hw b2
    refine ⟨(I2, o8'), ⟨fun c hc => (c1 c hc).trans (b1 c hc), c2.cg (fun c hc => ?_)⟩, ?_⟩
    · constructor
      · rintro ((h | h) | h)
        · exact Or.inl h
        · exact Or.inr (by omega)
        · exact Or.inr (by omega)
      · rintro (h | h)
        · exact Or.inl (Or.inl h)
        · by_cases q : c / 20 % 10 < y - g + i
          · exact Or.inl (Or.inr (by omega))
          · exact Or.inr (by omega)
    · dsimp only
      rw [B83_84, e1, if_neg (nI_nlt (by omega) (by omega)), mx_0 (by omega) (by omega), c3]
      rfl) (I, o8) ⟨fun _ _ => rfl, hb.cg (fun c _ => ⟨Or.inl, fun h => h.elim id (fun h => by omega)⟩)⟩
  dsimp only at a1 a2 a3
  refine ⟨I', some (.int (nI (min (y + g) 9 + 1))), q8, a1, a2.cg (fun c _ => ?_), (show _ = _ from a3).trans ?_⟩
  · constructor
    · rintro (h | h)
      · exact Or.inl h
      · exact Or.inr (by omega)
    · rintro (h | h)
      · exact Or.inl h
      · exact Or.inr (by omega)
  · rw [show y - g + (min (y + g) 9 + 1 - (y - g)) = min (y + g) 9 + 1 by omega, B83_84, e1, if_pos (nI_lt (by omega) (by omega)), nI_1]
theorem bw_c {B : Nat → Prop} {I : Nat → Nat → Int32} {g x y z : Nat} (l2 : Int32) (hg : g < 2) (hx : x < 20) (hy : y < 10) (hz : z < 8) (hb : brC B I) (o7 o8 : Option Value) : ∃ I' o6' o7' o8', (∀ c, c ≠ 102 → I' c = I c) ∧ brC (fun c => B c ∨ nr1 g x y z c) I' ∧ jv (d + 1) 83 60 [some (.ref 96), some (.int (nI g)), some (.int l2), some (.int (nI x)), some (.int (nI y)), some (.int (nI z)), some (.int (nI (z - g))), o7, o8] [] (shC, I, L, pX pa pb pu pw) = jv (d + 1) 83 153 [some (.ref 96), some (.int (nI g)), some (.int l2), some (.int (nI x)), some (.int (nI y)), some (.int (nI z)), o6', o7', o8'] [] (shC, I', L, pX pa pb pu pw) := by
  have e1 : (if nI z + nI g < 7 then nI z + nI g else 7) = nI (min (z + g) 7) := mn_m (m := 7) (by omega) (by omega) (by decide)
  obtain ⟨⟨I', q7, q8⟩, ⟨a1, a2⟩, a3⟩ := j_runP (α := (Nat → Nat → Int32) × Option Value × Option Value) (fun i t => jv (d + 1) 83 60 [some (.ref 96), some (.int (nI g)), some (.int l2), some (.int (nI x)), some (.int (nI y)), some (.int (nI z)), some (.int (nI (z - g + i))), t.2.1, t.2.2] [] (shC, t.1, L, pX pa pb pu pw)) (fun i t => (∀ c, c ≠ 102 → t.1 c = I c) ∧ brC (fun c => B c ∨ (c / 200 < z - g + i ∧ z ≤ c / 200 + g ∧ c / 20 % 10 ≤ y + g ∧ y ≤ c / 20 % 10 + g ∧ c % 20 ≤ x + g ∧ x ≤ c % 20 + g)) t.1) (min (z + g) 7 + 1 - (z - g)) (fun i hi t hI => by
    obtain ⟨I1, q7, q8⟩ := t
    obtain ⟨b1, b2⟩ := hI
    dsimp only at b1 b2 ⊢
    obtain ⟨I2, o7', o8', c1, c2, c3⟩ := bv_c (d := d) (L := L) (pa := pa) (pb := pb) (pu := pu) (pw := pw) (z := z) l2 hg hx hy (by omega : z - g + i < 8) b2 q8
    refine ⟨(I2, o7', o8'), ⟨fun c hc => (c1 c hc).trans (b1 c hc), c2.cg (fun c hc => ?_)⟩, ?_⟩
    · constructor
      · rintro ((h | h) | h)
        · exact Or.inl h
        · exact Or.inr (by omega)
        · exact Or.inr (by omega)
      · rintro (h | h)
        · exact Or.inl (Or.inl h)
        · by_cases q : c / 200 < z - g + i
          · exact Or.inl (Or.inr (by omega))
          · exact Or.inr (by omega)
    · dsimp only
      rw [B83_60, e1, if_neg (nI_nlt (by omega) (by omega)), mx_0 (by omega) (by omega), c3]
      rfl) (I, o7, o8) ⟨fun _ _ => rfl, hb.cg (fun c _ => ⟨Or.inl, fun h => h.elim id (fun h => by omega)⟩)⟩
  dsimp only at a1 a2 a3
  refine ⟨I', some (.int (nI (min (z + g) 7 + 1))), q7, q8, a1, a2.cg (fun c hc => ?_), (show _ = _ from a3).trans ?_⟩
  · unfold nr1
    constructor
    · rintro (h | h)
      · exact Or.inl h
      · exact Or.inr (by omega)
    · rintro (h | h)
      · exact Or.inl h
      · exact Or.inr (by omega)
  · rw [show z - g + (min (z + g) 7 + 1 - (z - g)) = min (z + g) 7 + 1 by omega, B83_60, e1, if_pos (nI_lt (by omega) (by omega))]
/-- bar() of the class -/
theorem bar_c {I : Nat → Nat → Int32} {Tk : Nat → Prop} {g : Nat} (hg : g < 2) (ht : ∀ c, c < 1600 → (I 101 c = 0 ↔ ¬ Tk c)) : ∃ I', (∀ c, c ≠ 102 → I' c = I c) ∧ brC (fun c => ∃ y, y < 1600 ∧ Tk y ∧ nr1 g (y % 20) (y / 20 % 10) (y / 200) c) I' ∧ jv (d + 1) 83 0 [some (.ref 96), some (.int (nI g)), none, none, none, none, none, none, none] [] (shC, I, L, pX pa pb pu pw) = some (none, (shC, I', L, pX pa pb pu pw)) := by
  rw [B83_0, jgo_some rfl (fill_byte (d := d) (a := 102) (n := 1600) (sh := shC) rfl (by decide) 0 none none I L (pX pa pb pu pw))]
  dsimp only [Option.toList_none, List.nil_append]
  rw [B83_8]
  generalize hI0 : va_up I 102 (j_fill (I 102) (fun _ => vp_nar .byte 0) 1600) = I0
  have f0 : ∀ c, c ≠ 102 → I0 c = I c := by
    subst hI0
    exact fun c hc => va_up_ne _ _ hc
  have b0 : brC (fun _ => False) I0 := by
    subst hI0
    intro c hc
    rw [va_up_self]
    refine ⟨fun _ z => z, fun _ => ?_⟩
    exact (if_pos hc).trans (show vp_nar .byte 0 = 0 by decide)
  obtain ⟨⟨I', q3, q4, q5, q6, q7, q8⟩, ⟨a1, a2⟩, a3⟩ := j_runP (α := (Nat → Nat → Int32) × Option Value × Option Value × Option Value × Option Value × Option Value × Option Value) (fun i t => jv (d + 1) 83 10 [some (.ref 96), some (.int (nI g)), some (.int (nI i)), t.2.1, t.2.2.1, t.2.2.2.1, t.2.2.2.2.1, t.2.2.2.2.2.1, t.2.2.2.2.2.2] [] (shC, t.1, L, pX pa pb pu pw)) (fun i t => (∀ c, c ≠ 102 → t.1 c = I c) ∧ brC (fun c => ∃ y, y < i ∧ Tk y ∧ nr1 g (y % 20) (y / 20 % 10) (y / 200) c) t.1) 1600 (fun i hi t hI => by
    obtain ⟨I1, q3, q4, q5, q6, q7, q8⟩ := t
    obtain ⟨b1, b2⟩ := hI
    dsimp only at b1 b2 ⊢
    have ji : j_in (nI i) 1600 = true := j_in_nI hi (by decide)
    have ti : I1 101 i = 0 ↔ ¬ Tk i := by rw [b1 101 (by decide)]; exact ht i hi
    rw [B83_10, if_pos (show nI i < 1600 from nI_lt (b := 1600) hi (by decide)), if_pos ji, nI_clamp (n := i) (by omega)]
    by_cases q : Tk i
    · have ex : nI i - nI i / 20 * 20 = nI (i % 20) := nI_mod (b := 20) (by omega) (by decide)
      have ed : nI i / 20 = nI (i / 20) := nI_div (b := 20) (by omega) (by decide)
      have ey : nI (i / 20) - nI (i / 20) / 10 * 10 = nI (i / 20 % 10) := nI_mod (b := 10) (by omega) (by decide)
      have ez : nI i / 200 = nI (i / 200) := nI_div (b := 200) (by omega) (by decide)
      rw [if_neg (fun z => ti.mp z q), if_neg (by decide), if_neg (by decide), if_neg (by decide), if_neg (by decide), ex, ed, ey, ez, mx_0 (by omega) (by omega)]
      obtain ⟨I2, o6', o7', o8', c1, c2, c3⟩ := bw_c (d := d) (L := L) (pa := pa) (pb := pb) (pu := pu) (pw := pw) (nI i) hg (by omega : i % 20 < 20) (by omega : i / 20 % 10 < 10) (by omega : i / 200 < 8) b2 q7 q8
      refine ⟨(I2, some (.int (nI (i % 20))), some (.int (nI (i / 20 % 10))), some (.int (nI (i / 200))), o6', o7', o8'), ⟨fun c hc => (c1 c hc).trans (b1 c hc), c2.cg (fun c hc => ?_)⟩, ?_⟩
      · constructor
        · rintro (⟨y, h1, h2, h3⟩ | h)
          · exact ⟨y, by omega, h2, h3⟩
          · exact ⟨i, by omega, q, h⟩
        · rintro ⟨y, h1, h2, h3⟩
          by_cases z : y = i
          · subst z; exact Or.inr h3
          · exact Or.inl ⟨y, by omega, h2, h3⟩
      · rw [c3, B83_153, nI_1]
    · rw [if_pos (ti.mpr q), B83_153, nI_1]
      refine ⟨(I1, q3, q4, q5, q6, q7, q8), ⟨b1, b2.cg (fun c hc => ?_)⟩, rfl⟩
      constructor
      · rintro ⟨y, h1, h2, h3⟩
        exact ⟨y, by omega, h2, h3⟩
      · rintro ⟨y, h1, h2, h3⟩
        refine ⟨y, ?_, h2, h3⟩
        by_cases z : y = i
        · subst z; exact absurd h2 q
        · omega) (I0, none, none, none, none, none, none) ⟨f0, b0.cg (fun c _ => ⟨False.elim, fun ⟨y, h, _⟩ => absurd h (Nat.not_lt_zero _)⟩)⟩
  dsimp only at a1 a2 a3
  refine ⟨I', a1, a2, (show _ = _ from a3).trans ?_⟩
  rw [B83_10, if_neg (by decide)]
end LEADM
