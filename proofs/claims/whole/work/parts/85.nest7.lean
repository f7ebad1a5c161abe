/-! PLATES: lay() of the reference -/
def zI (a g : Nat) : Int32 := nI a - nI g
theorem zI_toInt {a g : Nat} (ha : a < 1000) (hg : g < 1000) : (zI a g).toInt = (a : Int) - (g : Int) := by
  unfold zI
  rw [Int32.toInt_sub, nI_toInt (by omega), nI_toInt (by omega), Int.bmod_def]
  split <;> omega
theorem zI_lt {a g : Nat} (ha : a < 1000) (hg : g < 1000) {c : Nat} (hc : c < 1000) : zI a g < nI c ↔ a < c + g := by
  rw [Int32.lt_iff_toInt_lt, zI_toInt ha hg, nI_toInt (by omega)]
  omega
theorem zI_gt {a g : Nat} (ha : a < 1000) (hg : g < 1000) {c : Nat} (hc : c < 1000) : nI c < zI a g ↔ c + g < a := by
  rw [Int32.lt_iff_toInt_lt, zI_toInt ha hg, nI_toInt (by omega)]
  omega
theorem zI_1 (a g : Nat) : zI a g + 1 = zI (a + 1) g := by
  unfold zI
  rw [← nI_1 a, Int32.sub_eq_add_neg, Int32.sub_eq_add_neg, Int32.add_assoc, Int32.add_comm (-nI g) 1, ← Int32.add_assoc]
theorem zI_nI {a g : Nat} (h : g ≤ a) : zI a g = nI (a - g) := nI_sub h
theorem barR.iff {nr nr' : Nat → Nat → Nat → Prop} {J : Nat → Nat → Int32} (B : barR nr J) (h : ∀ s, s < 6 → ∀ x, x < 64 → ∀ y, y < 48 → (nr s x y ↔ nr' s x y)) : barR nr' J := fun s hs y hy x hx => by rw [B s hs y hy x hx, h s hs x hx y hy]
theorem barR.set {nr : Nat → Nat → Nat → Prop} {J : Nat → Nat → Int32} (B : barR nr J) {s X Y : Nat} (hs : s < 6) (hX : X < 64) (hY : Y < 48) : barR (fun s' x y => nr s' x y ∨ (s' = s ∧ x = X ∧ y = Y)) (j_up J 54 (3072 * s + 64 * Y + X) 1) := fun s' hs' y hy x hx => by
  rw [j_up_own]
  by_cases q : s' = s ∧ x = X ∧ y = Y
  · obtain ⟨rfl, rfl, rfl⟩ := q
    rw [if_pos rfl]
    constructor
    · intro z; exact absurd z (by decide)
    · intro z; exact absurd (Or.inr ⟨rfl, rfl, rfl⟩) z
  · rw [if_neg (by omega), B s' hs' y hy x hx]
    constructor
    · intro z r
      rcases r with r | r
      · exact z r
      · exact q r
    · intro z r
      exact z (Or.inl r)
def ownR (o : Nat → Nat → Nat → Nat) (J : Nat → Nat → Int32) : Prop := ∀ s, s < 6 → ∀ x y, x < 64 → y < 48 → J 53 (3072 * s + 64 * y + x) = nI (o s x y)
def frNr (J J' : Nat → Nat → Int32) : Prop := ∀ c, c ≠ 54 → J' c = J c
section NEST7
variable {d e : Nat} {L L' : Nat → Nat → Int64} {pa pb pu pw : Option Nat} {K : Option Value → jS → jO} {w h W H : Nat} {v : Nat → Int32} {nr : Nat → Nat → Nat → Prop}
/-- one cell more is near -/
theorem ly_x {J : Nat → Nat → Int32} {s p g k cx cy a b : Nat} (hs : s < 6) (hp : p < 32) (hg : g < 4) (h49 : J 49 p = nI s) (B : barR nr J) (hcx : cx < 64) (ha : a < 100) (hb : b ≤ cx + 2 * g) : ∃ J', frNr J J' ∧ barR (fun s' x y => nr s' x y ∨ (s' = s ∧ x + g = b ∧ y + g = a)) J' ∧ jv e 337 104 [some (.ref 0), some (.int (nI p)), some (.int (nI g)), some (.int (nI k)), some (.int (nI cx)), some (.int (nI cy)), some (.int (zI a g)), some (.int (zI b g))] [] (shR, J, L', pR) = jv e 337 104 [some (.ref 0), some (.int (nI p)), some (.int (nI g)), some (.int (nI k)), some (.int (nI cx)), some (.int (nI cy)), some (.int (zI a g)), some (.int (zI (b + 1) g))] [] (shR, J', L', pR) := by
  have jp : j_in (nI p) 32 = true := j_in_nI hp (by decide)
  rw [B337_104, nI_add, if_neg (fun z => by have := (zI_gt (by omega) (by omega) (by omega)).mp z; omega)]
  have no : ¬ (g ≤ b ∧ b < 64 + g ∧ g ≤ a ∧ a < 48 + g) → ∃ J', frNr J J' ∧ barR (fun s' x y => nr s' x y ∨ (s' = s ∧ x + g = b ∧ y + g = a)) J' ∧ jv e 337 162 [some (.ref 0), some (.int (nI p)), some (.int (nI g)), some (.int (nI k)), some (.int (nI cx)), some (.int (nI cy)), some (.int (zI a g)), some (.int (zI b g))] [] (shR, J, L', pR) = jv e 337 104 [some (.ref 0), some (.int (nI p)), some (.int (nI g)), some (.int (nI k)), some (.int (nI cx)), some (.int (nI cy)), some (.int (zI a g)), some (.int (zI (b + 1) g))] [] (shR, J', L', pR) := fun q => ⟨J, fun _ _ => rfl, B.iff (fun s' hs' x hx y hy => ⟨Or.inl, fun z => by
    rcases z with z | z
    · exact z
    · omega⟩), by rw [B337_162, zI_1]⟩
  by_cases q1 : b < g
  · rw [if_pos (show zI b g < 0 from (zI_lt (c := 0) (by omega) (by omega) (by decide)).mpr (by omega))]
    exact no (by omega)
  rw [if_neg (show ¬ zI b g < 0 from fun z => by have := (zI_lt (c := 0) (by omega) (by omega) (by decide)).mp z; omega)]
  by_cases q2 : a < g
  · rw [if_pos (show zI a g < 0 from (zI_lt (c := 0) (by omega) (by omega) (by decide)).mpr (by omega))]
    exact no (by omega)
  rw [if_neg (show ¬ zI a g < 0 from fun z => by have := (zI_lt (c := 0) (by omega) (by omega) (by decide)).mp z; omega)]
  by_cases q3 : b < 64 + g
  · rw [if_pos (show zI b g < 64 from (zI_lt (c := 64) (by omega) (by omega) (by decide)).mpr q3)]
    by_cases q4 : a < 48 + g
    · rw [if_pos (show zI a g < 48 from (zI_lt (c := 48) (by omega) (by omega) (by decide)).mpr q4), if_pos jp, nI_clamp (n := p) (by omega), h49]
      have e1 : 3072 * nI s + 64 * zI a g + zI b g = nI (3072 * s + 64 * (a - g) + (b - g)) := by
        rw [zI_nI (by omega), zI_nI (by omega), show 3072 * nI s = nI (3072 * s) from nI_mul 3072 s, show 64 * nI (a - g) = nI (64 * (a - g)) from nI_mul 64 _, nI_add, nI_add]
      rw [e1, if_pos (j_in_nI (by omega) (by decide)), nI_clamp (by omega), B337_162, zI_1]
      refine ⟨_, ?_, (B.set (X := b - g) (Y := a - g) hs (by omega) (by omega)).iff (fun s' hs' x hx y hy => ?_), rfl⟩
      · exact fun c hc => j_up_cell _ hc _ _
      · constructor
        · rintro (z | ⟨z1, z2, z3⟩)
          · exact Or.inl z
          · exact Or.inr ⟨z1, by omega, by omega⟩
        · rintro (z | ⟨z1, z2, z3⟩)
          · exact Or.inl z
          · exact Or.inr ⟨z1, by omega, by omega⟩
    · rw [if_neg (show ¬ zI a g < 48 from fun z => q4 ((zI_lt (c := 48) (by omega) (by omega) (by decide)).mp z))]
      exact no (by omega)
  · rw [if_neg (show ¬ zI b g < 64 from fun z => q3 ((zI_lt (c := 64) (by omega) (by omega) (by decide)).mp z))]
    exact no (by omega)
/-- a row of a cell's neighbours -/
theorem ly_y {J : Nat → Nat → Int32} {s p g k cx cy a : Nat} (hs : s < 6) (hp : p < 32) (hg : g < 4) (h49 : J 49 p = nI s) (B : barR nr J) (hcx : cx < 64) (hcy : cy < 48) (ha : a ≤ cy + 2 * g) (o7 : Option Value) : ∃ J', frNr J J' ∧ barR (fun s' x y => nr s' x y ∨ (s' = s ∧ (cx ≤ x + g ∧ x + g < cx + 2 * g + 1) ∧ y + g = a)) J' ∧ ∃ z7 : Option Value, jv e 337 89 [some (.ref 0), some (.int (nI p)), some (.int (nI g)), some (.int (nI k)), some (.int (nI cx)), some (.int (nI cy)), some (.int (zI a g)), o7] [] (shR, J, L', pR) = jv e 337 89 [some (.ref 0), some (.int (nI p)), some (.int (nI g)), some (.int (nI k)), some (.int (nI cx)), some (.int (nI cy)), some (.int (zI (a + 1) g)), z7] [] (shR, J', L', pR) := by
  obtain ⟨J', ⟨f, B'⟩, k1⟩ := j_runP (fun i (J : Nat → Nat → Int32) => jv e 337 104 [some (.ref 0), some (.int (nI p)), some (.int (nI g)), some (.int (nI k)), some (.int (nI cx)), some (.int (nI cy)), some (.int (zI a g)), some (.int (zI (cx + i) g))] [] (shR, J, L', pR)) (fun i J' => frNr J J' ∧ barR (fun s' x y => nr s' x y ∨ (s' = s ∧ (cx ≤ x + g ∧ x + g < cx + i) ∧ y + g = a)) J') (2 * g + 1) (fun i hi J1 hq => by
    obtain ⟨J2, f2, B2, k2⟩ := ly_x (e := e) (L' := L') (k := k) (cx := cx) (cy := cy) (a := a) (b := cx + i) hs hp hg (by rw [hq.1 49 (by decide), h49]) hq.2 hcx (by omega) (by omega)
    refine ⟨J2, ⟨fun c hc => (f2 c hc).trans (hq.1 c hc), B2.iff (fun s' hs' x hx y hy => ?_)⟩, k2⟩
    constructor
    · rintro ((z | ⟨z1, z2, z3⟩) | ⟨z1, z2, z3⟩)
      · exact Or.inl z
      · exact Or.inr ⟨z1, by omega, z3⟩
      · exact Or.inr ⟨z1, by omega, z3⟩
    · rintro (z | ⟨z1, z2, z3⟩)
      · exact Or.inl (Or.inl z)
      · by_cases q : x + g = cx + i
        · exact Or.inr ⟨z1, q, z3⟩
        · exact Or.inl (Or.inr ⟨z1, by omega, z3⟩)) J ⟨fun _ _ => rfl, B.iff (fun s' hs' x hx y hy => ⟨Or.inl, fun z => by
      rcases z with z | z
      · exact z
      · omega⟩)⟩
  refine ⟨J', f, B'.iff (fun s' hs' x hx y hy => by rw [show cx + (2 * g + 1) = cx + 2 * g + 1 by omega]), some (.int (zI (cx + (2 * g + 1)) g)), ?_⟩
  rw [B337_89, nI_add, if_neg (fun z => by have := (zI_gt (by omega) (by omega) (by omega)).mp z; omega)]
  refine k1.trans ?_
  rw [B337_104, nI_add, if_pos ((zI_gt (by omega) (by omega) (by omega)).mpr (by omega)), zI_1]
/-- all neighbours of a cell -/
theorem ly_c {J : Nat → Nat → Int32} {s p g k cx cy : Nat} (hs : s < 6) (hp : p < 32) (hg : g < 4) (h49 : J 49 p = nI s) (B : barR nr J) (hcx : cx < 64) (hcy : cy < 48) (o7 : Option Value) : ∃ J', frNr J J' ∧ barR (fun s' x y => nr s' x y ∨ (s' = s ∧ (cx ≤ x + g ∧ x ≤ cx + g) ∧ (cy ≤ y + g ∧ y ≤ cy + g))) J' ∧ ∃ z6 z7 : Option Value, jv e 337 89 [some (.ref 0), some (.int (nI p)), some (.int (nI g)), some (.int (nI k)), some (.int (nI cx)), some (.int (nI cy)), some (.int (zI cy g)), o7] [] (shR, J, L', pR) = jv e 337 18 [some (.ref 0), some (.int (nI p)), some (.int (nI g)), some (.int (nI (k + 1))), some (.int (nI cx)), some (.int (nI cy)), z6, z7] [] (shR, J', L', pR) := by
  obtain ⟨⟨J', z7⟩, ⟨f, B'⟩, k1⟩ := j_runP (fun i (q : (Nat → Nat → Int32) × Option Value) => jv e 337 89 [some (.ref 0), some (.int (nI p)), some (.int (nI g)), some (.int (nI k)), some (.int (nI cx)), some (.int (nI cy)), some (.int (zI (cy + i) g)), q.2] [] (shR, q.1, L', pR)) (fun i q => frNr J q.1 ∧ barR (fun s' x y => nr s' x y ∨ (s' = s ∧ (cx ≤ x + g ∧ x ≤ cx + g) ∧ (cy ≤ y + g ∧ y + g < cy + i))) q.1) (2 * g + 1) (fun i hi q hq => by
    obtain ⟨J2, f2, B2, z7, k2⟩ := ly_y (e := e) (L' := L') (k := k) (cx := cx) (cy := cy) (a := cy + i) hs hp hg (by rw [hq.1 49 (by decide), h49]) hq.2 hcx hcy (by omega) q.2
    refine ⟨(J2, z7), ⟨fun c hc => (f2 c hc).trans (hq.1 c hc), B2.iff (fun s' hs' x hx y hy => ?_)⟩, k2⟩
    constructor
    · rintro ((z | ⟨z1, z2, z3⟩) | ⟨z1, z2, z3⟩)
      · exact Or.inl z
      · exact Or.inr ⟨z1, z2, by omega⟩
      · exact Or.inr ⟨z1, by omega, by omega⟩
    · rintro (z | ⟨z1, z2, z3⟩)
      · exact Or.inl (Or.inl z)
      · by_cases q : y + g = cy + i
        · exact Or.inr ⟨z1, by omega, q⟩
        · exact Or.inl (Or.inr ⟨z1, z2, by omega⟩)) (J, o7) ⟨fun _ _ => rfl, B.iff (fun s' hs' x hx y hy => ⟨Or.inl, fun z => by
      rcases z with z | z
      · exact z
      · omega⟩)⟩
  dsimp only at f B' k1
  refine ⟨J', f, B'.iff (fun s' hs' x hx y hy => ?_), some (.int (zI (cy + (2 * g + 1)) g)), z7, ?_⟩
  · constructor
    · rintro (z | ⟨z1, z2, z3⟩)
      · exact Or.inl z
      · exact Or.inr ⟨z1, z2, by omega⟩
    · rintro (z | ⟨z1, z2, z3⟩)
      · exact Or.inl z
      · exact Or.inr ⟨z1, z2, by omega⟩
  · refine k1.trans ?_
    rw [B337_89, nI_add, if_pos ((zI_gt (by omega) (by omega) (by omega)).mpr (by omega)), nI_1 k]
end NEST7
