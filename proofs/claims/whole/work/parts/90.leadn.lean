/-! PIPES: the barred cells, reference -/
section LEADN
variable {e : Nat} {L : Nat → Nat → Int64}
theorem brR.cg {B B' : Nat → Prop} {J : Nat → Nat → Int32} (h : brR B J) (hB : ∀ c, c < 1600 → (B c ↔ B' c)) : brR B' J := fun c hc => by rw [h c hc, hB c hc]
theorem brR.set {B : Nat → Prop} {J : Nat → Nat → Int32} (h : brR B J) (y : Nat) : brR (fun c => B c ∨ c = y) (j_up J 67 y (vp_nar .boolean 1)) := by
  intro c hc
  rw [j_up_own]
  by_cases q : c = y
  · rw [if_pos q]
    constructor
    · intro z; exact absurd z (by decide)
    · intro z; exact absurd (Or.inr q) z
  · rw [if_neg q, h c hc]
    constructor
    · intro z w; exact w.elim z q
    · intro z w; exact z (Or.inl w)
/-- one cell: the coordinates are a, b, k less the gap -/
theorem b1_r {B : Nat → Prop} {J : Nat → Nat → Int32} {g x y z a b k : Nat} (hg : g < 2) (hx : x < 20) (ha : a ≤ x + 2 * g) (hb' : b < 100) (hk : k < 100) (hb : brR B J) : ∃ J', (∀ c, c ≠ 67 → J' c = J c) ∧ brR (fun c => B c ∨ (c % 20 + g = a ∧ c / 20 % 10 + g = b ∧ c / 200 + g = k)) J' ∧ jv e 346 36 [some (.ref 0), some (.int (nI x)), some (.int (nI y)), some (.int (nI z)), some (.int (nI g)), some (.int (zI k g)), some (.int (zI b g)), some (.int (zI a g))] [] (shR, J, L, pR) = jv e 346 36 [some (.ref 0), some (.int (nI x)), some (.int (nI y)), some (.int (nI z)), some (.int (nI g)), some (.int (zI k g)), some (.int (zI b g)), some (.int (zI (a + 1) g))] [] (shR, J', L, pR) := by
  have no : ¬ (g ≤ a ∧ g ≤ b ∧ g ≤ k ∧ a < 20 + g ∧ b < 10 + g ∧ k < 8 + g) → ∃ J', (∀ c, c ≠ 67 → J' c = J c) ∧ brR (fun c => B c ∨ (c % 20 + g = a ∧ c / 20 % 10 + g = b ∧ c / 200 + g = k)) J' ∧ jv e 346 102 [some (.ref 0), some (.int (nI x)), some (.int (nI y)), some (.int (nI z)), some (.int (nI g)), some (.int (zI k g)), some (.int (zI b g)), some (.int (zI a g))] [] (shR, J, L, pR) = jv e 346 36 [some (.ref 0), some (.int (nI x)), some (.int (nI y)), some (.int (nI z)), some (.int (nI g)), some (.int (zI k g)), some (.int (zI b g)), some (.int (zI (a + 1) g))] [] (shR, J', L, pR) := fun q => ⟨J, fun _ _ => rfl, hb.cg (fun c hc => ⟨Or.inl, fun z => by
    rcases z with z | z
    · exact z
    · omega⟩), by rw [B346_102, zI_1]⟩
  rw [B346_36, nI_add, if_neg (fun z => by have := (zI_gt (by omega) (by omega) (by omega)).mp z; omega)]
  by_cases q1 : a < g
  · rw [if_pos (show zI a g < 0 from (zI_lt (c := 0) (by omega) (by omega) (by decide)).mpr (by omega))]
    exact no (by omega)
  rw [if_neg (show ¬ zI a g < 0 from fun z => by have := (zI_lt (c := 0) (by omega) (by omega) (by decide)).mp z; omega)]
  by_cases q2 : b < g
  · rw [if_pos (show zI b g < 0 from (zI_lt (c := 0) (by omega) (by omega) (by decide)).mpr (by omega))]
    exact no (by omega)
  rw [if_neg (show ¬ zI b g < 0 from fun z => by have := (zI_lt (c := 0) (by omega) (by omega) (by decide)).mp z; omega)]
  by_cases q3 : k < g
  · rw [if_pos (show zI k g < 0 from (zI_lt (c := 0) (by omega) (by omega) (by decide)).mpr (by omega))]
    exact no (by omega)
  rw [if_neg (show ¬ zI k g < 0 from fun z => by have := (zI_lt (c := 0) (by omega) (by omega) (by decide)).mp z; omega)]
  by_cases q4 : a < 20 + g
  · rw [if_pos (show zI a g < 20 from (zI_lt (c := 20) (by omega) (by omega) (by decide)).mpr q4)]
    by_cases q5 : b < 10 + g
    · rw [if_pos (show zI b g < 10 from (zI_lt (c := 10) (by omega) (by omega) (by decide)).mpr q5)]
      by_cases q6 : k < 8 + g
      · have e1 : zI a g + 20 * zI b g + 200 * zI k g = nI ((a - g) + 20 * (b - g) + 200 * (k - g)) := by
          rw [zI_nI (by omega), zI_nI (by omega), zI_nI (by omega), show 20 * nI (b - g) = nI (20 * (b - g)) from nI_mul 20 _, show 200 * nI (k - g) = nI (200 * (k - g)) from nI_mul 200 _, nI_add, nI_add]
        rw [if_pos (show zI k g < 8 from (zI_lt (c := 8) (by omega) (by omega) (by decide)).mpr q6), e1, if_pos (j_in_nI (by omega) (by decide)), nI_clamp (by omega), B346_102, zI_1]
        refine ⟨_, fun c hc => j_up_cell _ hc _ _, (hb.set ((a - g) + 20 * (b - g) + 200 * (k - g))).cg (fun c hc => ?_), rfl⟩
        constructor
        · rintro (z | z)
          · exact Or.inl z
          · exact Or.inr (by omega)
        · rintro (z | z)
          · exact Or.inl z
          · exact Or.inr (by omega)
      · rw [if_neg (show ¬ zI k g < 8 from fun z => q6 ((zI_lt (c := 8) (by omega) (by omega) (by decide)).mp z))]
        exact no (by omega)
    · rw [if_neg (show ¬ zI b g < 10 from fun z => q5 ((zI_lt (c := 10) (by omega) (by omega) (by decide)).mp z))]
      exact no (by omega)
  · rw [if_neg (show ¬ zI a g < 20 from fun z => q4 ((zI_lt (c := 20) (by omega) (by omega) (by decide)).mp z))]
    exact no (by omega)
theorem b2_r {B : Nat → Prop} {J : Nat → Nat → Int32} {g x y z b k : Nat} (hg : g < 2) (hx : x < 20) (hb' : b < 100) (hk : k < 100) (hb : brR B J) : ∃ J' o7, (∀ c, c ≠ 67 → J' c = J c) ∧ brR (fun c => B c ∨ (c % 20 ≤ x + g ∧ x ≤ c % 20 + g ∧ c / 20 % 10 + g = b ∧ c / 200 + g = k)) J' ∧ jv e 346 36 [some (.ref 0), some (.int (nI x)), some (.int (nI y)), some (.int (nI z)), some (.int (nI g)), some (.int (zI k g)), some (.int (zI b g)), some (.int (zI x g))] [] (shR, J, L, pR) = jv e 346 21 [some (.ref 0), some (.int (nI x)), some (.int (nI y)), some (.int (nI z)), some (.int (nI g)), some (.int (zI k g)), some (.int (zI (b + 1) g)), o7] [] (shR, J', L, pR) := by
  obtain ⟨J', ⟨a1, a2⟩, a3⟩ := j_runP (α := Nat → Nat → Int32) (fun i J1 => jv e 346 36 [some (.ref 0), some (.int (nI x)), some (.int (nI y)), some (.int (nI z)), some (.int (nI g)), some (.int (zI k g)), some (.int (zI b g)), some (.int (zI (x + i) g))] [] (shR, J1, L, pR)) (fun i J1 => (∀ c, c ≠ 67 → J1 c = J c) ∧ brR (fun c => B c ∨ (c % 20 + g < x + i ∧ x ≤ c % 20 + g ∧ c / 20 % 10 + g = b ∧ c / 200 + g = k)) J1) (2 * g + 1) (fun i hi J1 hJ => by
    obtain ⟨b1, b2⟩ := hJ
    try dsimp only
    obtain ⟨J2, c1, c2, c3⟩ := b1_r (e := e) (L := L) (y := y) (z := z) (a := x + i) hg hx (by omega) hb' hk b2
    refine ⟨J2, ⟨fun c hc => (c1 c hc).trans (b1 c hc), c2.cg (fun c hc => ?_)⟩, c3⟩
    constructor
    · rintro ((h | h) | h)
      · exact Or.inl h
      · exact Or.inr (by omega)
      · exact Or.inr (by omega)
    · rintro (h | h)
      · exact Or.inl (Or.inl h)
      · by_cases q : c % 20 + g < x + i
        · exact Or.inl (Or.inr (by omega))
        · exact Or.inr (by omega)) J ⟨fun _ _ => rfl, hb.cg (fun c _ => ⟨Or.inl, fun h => h.elim id (fun h => by omega)⟩)⟩
  refine ⟨J', some (.int (zI (x + (2 * g + 1)) g)), a1, a2.cg (fun c _ => ?_), (show _ = _ from a3).trans ?_⟩
  · constructor
    · rintro (h | h)
      · exact Or.inl h
      · exact Or.inr (by omega)
    · rintro (h | h)
      · exact Or.inl h
      · exact Or.inr (by omega)
  · rw [B346_36, nI_add, if_pos ((zI_gt (by omega) (by omega) (by omega)).mpr (by omega)), zI_1]
theorem b3_r {B : Nat → Prop} {J : Nat → Nat → Int32} {g x y z k : Nat} (hg : g < 2) (hx : x < 20) (hy : y < 10) (hk : k < 100) (hb : brR B J) (o7 : Option Value) : ∃ J' o6 o7', (∀ c, c ≠ 67 → J' c = J c) ∧ brR (fun c => B c ∨ (c % 20 ≤ x + g ∧ x ≤ c % 20 + g ∧ c / 20 % 10 ≤ y + g ∧ y ≤ c / 20 % 10 + g ∧ c / 200 + g = k)) J' ∧ jv e 346 21 [some (.ref 0), some (.int (nI x)), some (.int (nI y)), some (.int (nI z)), some (.int (nI g)), some (.int (zI k g)), some (.int (zI y g)), o7] [] (shR, J, L, pR) = jv e 346 6 [some (.ref 0), some (.int (nI x)), some (.int (nI y)), some (.int (nI z)), some (.int (nI g)), some (.int (zI (k + 1) g)), o6, o7'] [] (shR, J', L, pR) := by
  obtain ⟨⟨J', q7⟩, ⟨a1, a2⟩, a3⟩ := j_runP (α := (Nat → Nat → Int32) × Option Value) (fun i t => jv e 346 21 [some (.ref 0), some (.int (nI x)), some (.int (nI y)), some (.int (nI z)), some (.int (nI g)), some (.int (zI k g)), some (.int (zI (y + i) g)), t.2] [] (shR, t.1, L, pR)) (fun i t => (∀ c, c ≠ 67 → t.1 c = J c) ∧ brR (fun c => B c ∨ (c % 20 ≤ x + g ∧ x ≤ c % 20 + g ∧ c / 20 % 10 + g < y + i ∧ y ≤ c / 20 % 10 + g ∧ c / 200 + g = k)) t.1) (2 * g + 1) (fun i hi t hJ => by
    obtain ⟨J1, q7⟩ := t
    obtain ⟨b1, b2⟩ := hJ
    dsimp only at b1 b2 ⊢
    obtain ⟨J2, o7', c1, c2, c3⟩ := b2_r (e := e) (L := L) (y := y) (z := z) (b := y + i) hg hx (by omega) hk b2
    refine ⟨(J2, o7'), ⟨fun c hc => (c1 c hc).trans (b1 c hc), c2.cg (fun c hc => ?_)⟩, ?_⟩
    · constructor
      · rintro ((h | h) | h)
        · exact Or.inl h
        · exact Or.inr (by omega)
        · exact Or.inr (by omega)
      · rintro (h | h)
        · exact Or.inl (Or.inl h)
        · by_cases q : c / 20 % 10 + g < y + i
          · exact Or.inl (Or.inr (by omega))
          · exact Or.inr (by omega)
    · dsimp only
      rw [B346_21, nI_add, if_neg (fun z => by have := (zI_gt (by omega) (by omega) (by omega)).mp z; omega)]
      exact c3) (J, o7) ⟨fun _ _ => rfl, hb.cg (fun c _ => ⟨Or.inl, fun h => h.elim id (fun h => by omega)⟩)⟩
  dsimp only at a1 a2 a3
  refine ⟨J', some (.int (zI (y + (2 * g + 1)) g)), q7, a1, a2.cg (fun c _ => ?_), (show _ = _ from a3).trans ?_⟩
  · constructor
    · rintro (h | h)
      · exact Or.inl h
      · exact Or.inr (by omega)
    · rintro (h | h)
      · exact Or.inl h
      · exact Or.inr (by omega)
  · rw [B346_21, nI_add, if_pos ((zI_gt (by omega) (by omega) (by omega)).mpr (by omega)), zI_1]
/-- bar() of the reference -/
theorem bar_r {B : Nat → Prop} {J : Nat → Nat → Int32} {g x y z : Nat} (hg : g < 2) (hx : x < 20) (hy : y < 10) (hz : z < 8) (hb : brR B J) : ∃ J', (∀ c, c ≠ 67 → J' c = J c) ∧ brR (fun c => B c ∨ nr1 g x y z c) J' ∧ jv e 346 0 [some (.ref 0), some (.int (nI x)), some (.int (nI y)), some (.int (nI z)), some (.int (nI g)), none, none, none] [] (shR, J, L, pR) = some (none, (shR, J', L, pR)) := by
  obtain ⟨⟨J', q6, q7⟩, ⟨a1, a2⟩, a3⟩ := j_runP (α := (Nat → Nat → Int32) × Option Value × Option Value) (fun i t => jv e 346 6 [some (.ref 0), some (.int (nI x)), some (.int (nI y)), some (.int (nI z)), some (.int (nI g)), some (.int (zI (z + i) g)), t.2.1, t.2.2] [] (shR, t.1, L, pR)) (fun i t => (∀ c, c ≠ 67 → t.1 c = J c) ∧ brR (fun c => B c ∨ (c % 20 ≤ x + g ∧ x ≤ c % 20 + g ∧ c / 20 % 10 ≤ y + g ∧ y ≤ c / 20 % 10 + g ∧ c / 200 + g < z + i ∧ z ≤ c / 200 + g)) t.1) (2 * g + 1) (fun i hi t hJ => by
    obtain ⟨J1, q6, q7⟩ := t
    obtain ⟨b1, b2⟩ := hJ
    dsimp only at b1 b2 ⊢
    obtain ⟨J2, o6', o7', c1, c2, c3⟩ := b3_r (e := e) (L := L) (z := z) (k := z + i) hg hx hy (by omega) b2 q7
    refine ⟨(J2, o6', o7'), ⟨fun c hc => (c1 c hc).trans (b1 c hc), c2.cg (fun c hc => ?_)⟩, ?_⟩
    · constructor
      · rintro ((h | h) | h)
        · exact Or.inl h
        · exact Or.inr (by omega)
        · exact Or.inr (by omega)
      · rintro (h | h)
        · exact Or.inl (Or.inl h)
        · by_cases q : c / 200 + g < z + i
          · exact Or.inl (Or.inr (by omega))
          · exact Or.inr (by omega)
    · dsimp only
      rw [B346_6, nI_add, if_neg (fun z => by have := (zI_gt (by omega) (by omega) (by omega)).mp z; omega)]
      exact c3) (J, none, none) ⟨fun _ _ => rfl, hb.cg (fun c _ => ⟨Or.inl, fun h => h.elim id (fun h => by omega)⟩)⟩
  dsimp only at a1 a2 a3
  refine ⟨J', a1, a2.cg (fun c _ => ?_), ?_⟩
  · unfold nr1
    constructor
    · rintro (h | h)
      · exact Or.inl h
      · exact Or.inr (by omega)
    · rintro (h | h)
      · exact Or.inl h
      · exact Or.inr (by omega)
  · rw [B346_0]
    refine (show _ = _ from a3).trans ?_
    rw [B346_6, nI_add, if_pos ((zI_gt (by omega) (by omega) (by omega)).mpr (by omega))]
end LEADN
