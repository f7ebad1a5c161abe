/-! PLATES: lay() of the class, a row -/
theorem lbit_at (x : Int64) {k : Nat} (hk : k < 64) : (lg_cmp (((x.toUInt64 >>> ((nI k).toInt64.toUInt64 &&& Int64.toUInt64 63)).toInt64) &&& 1) 0 = 0) ↔ ¬ lbit k x := by
  rw [lcmp_0, lbit_none]
  have h1 : ∀ v, lbit v 1 ↔ v = 0 := fun v => by
    unfold lbit
    show (1#64).getLsbD v = true ↔ _
    simp
  constructor
  · intro q z
    refine q 0 (lbit_and.mpr ⟨(lbit_shr hk).mpr z, (h1 0).mpr rfl⟩)
  · intro q u z
    obtain ⟨z1, z2⟩ := lbit_and.mp z
    rw [(h1 u).mp z2] at z1
    exact q ((lbit_shr hk).mp z1)
theorem byte_p : ∀ p, p < 32 → vp_nar .byte ((nI p + 1).toInt8.toInt32) = nI (p + 1) := by decide +kernel
def ownC (w h : Nat) (o : Nat → Nat → Nat → Nat) (I : Nat → Nat → Int32) : Prop := ∀ s, s < 6 → ∀ x y, x < w → y < h → I 90 (s * 3072 + y * 64 + x) = nI (o s x y)
theorem ownC.iff {w h : Nat} {o : Nat → Nat → Nat → Nat} {S S' : Nat → Nat → Nat → Prop} {p : Nat} {I : Nat → Nat → Int32} (O : ownC w h (layF o S p) I) (q : ∀ s x y, S s x y ↔ S' s x y) : ownC w h (layF o S' p) I := fun s hs x y hx hy => by rw [O s hs x y hx hy, layF_iff (q s x y)]
theorem ownC.set {w h : Nat} {o : Nat → Nat → Nat → Nat} {S : Nat → Nat → Nat → Prop} {p : Nat} {I : Nat → Nat → Int32} (O : ownC w h (layF o S p) I) {s X Y : Nat} (hw : w ≤ 64) (hh : h ≤ 48) (hs : s < 6) (hX : X < w) (hY : Y < h) : ownC w h (layF o (fun s' x y => S s' x y ∨ (s' = s ∧ x = X ∧ y = Y)) p) (j_up I 90 (s * 3072 + Y * 64 + X) (nI (p + 1))) := fun s' hs' x y hx hy => by
  rw [j_up_own]
  by_cases q : s' = s ∧ x = X ∧ y = Y
  · obtain ⟨rfl, rfl, rfl⟩ := q
    rw [if_pos rfl, layF_y (Or.inr ⟨rfl, rfl, rfl⟩)]
  · rw [if_neg (by omega), O s' hs' x y hx hy]
    congr 1
    exact layF_iff ⟨Or.inl, fun z => by rcases z with z | z; exact z; exact absurd z q⟩
theorem barC.iff {nr nr' : Nat → Nat → Nat → Prop} {L : Nat → Nat → Int64} (B : barC nr L) (q : ∀ s, s < 6 → ∀ x, x < 64 → ∀ y, y < 48 → (nr s x y ↔ nr' s x y)) : barC nr' L := fun s hs y hy x hx => by rw [B s hs y hy x hx, q s hs x hx y hy]
theorem barC.set {nr : Nat → Nat → Nat → Prop} {L : Nat → Nat → Int64} (B : barC nr L) {s V : Nat} (near : Int64) (hs : s < 6) (hV : V < 48) : barC (fun s' x y => nr s' x y ∨ (s' = s ∧ y = V ∧ lbit x near)) (j_up L 89 (48 * s + V) (L 89 (48 * s + V) ||| near)) := fun s' hs' y hy x hx => by
  rw [j_up_own]
  by_cases q : s' = s ∧ y = V
  · obtain ⟨rfl, rfl⟩ := q
    rw [if_pos rfl, lbit_or, B s' hs' y hy x hx]
    constructor
    · rintro (z | z)
      · exact Or.inl z
      · exact Or.inr ⟨rfl, rfl, z⟩
    · rintro (z | ⟨-, -, z⟩)
      · exact Or.inl z
      · exact Or.inr z
  · rw [if_neg (by omega), B s' hs' y hy x hx]
    constructor
    · exact Or.inl
    · rintro (z | ⟨z1, z2, -⟩)
      · exact z
      · exact absurd ⟨z1, z2⟩ q
section NEST9
variable {d e : Nat} {pa pb pu pw : Option Nat} {w h W H : Nat} {nr : Nat → Nat → Nat → Prop} {o : Nat → Nat → Nat → Nat}
theorem lc_x {I : Nat → Nat → Int32} {L : Nat → Nat → Int64} {p s r Y : Nat} {S : Nat → Nat → Nat → Prop} (hw : w ≤ 64) (hh : h ≤ 48) (hp : p < 32) (hs : s < 6) (hY : Y < h) (e3 : I 83 3 = nI w) (O : ownC w h (layF o S p) I) (row : Int64) (o8 o9 : Option Value) : ∃ I', (∀ c, c ≠ 90 → I' c = I c) ∧ ownC w h (layF o (fun s' x y => S s' x y ∨ (s' = s ∧ x < w ∧ lbit x row ∧ y = Y)) p) I' ∧ jv d 119 65 [some (.ref 83), some (.int (nI p)), some (.int (nI (48 * s))), some (.int (nI r)), some (.long row), none, some (.int (nI Y)), some (.int (nI 0)), o8, o9] [] (shC, I, L, pX pa pb pu pw) = jv d 119 65 [some (.ref 83), some (.int (nI p)), some (.int (nI (48 * s))), some (.int (nI r)), some (.long row), none, some (.int (nI Y)), some (.int (nI w)), o8, o9] [] (shC, I', L, pX pa pb pu pw) := by
  obtain ⟨I', ⟨f, O'⟩, k1⟩ := j_runP (fun i (I : Nat → Nat → Int32) => jv d 119 65 [some (.ref 83), some (.int (nI p)), some (.int (nI (48 * s))), some (.int (nI r)), some (.long row), none, some (.int (nI Y)), some (.int (nI i)), o8, o9] [] (shC, I, L, pX pa pb pu pw)) (fun i I' => (∀ c, c ≠ 90 → I' c = I c) ∧ ownC w h (layF o (fun s' x y => S s' x y ∨ (s' = s ∧ x < i ∧ lbit x row ∧ y = Y)) p) I') w (fun i hi I1 hq => by
    obtain ⟨f1, O1⟩ := hq
    have e1 : (nI (48 * s) + nI Y) * 64 + nI i = nI (s * 3072 + Y * 64 + i) := by
      rw [nI_add, show nI (48 * s + Y) * 64 = nI ((48 * s + Y) * 64) from nI_mul _ 64, nI_add, show (48 * s + Y) * 64 + i = s * 3072 + Y * 64 + i by omega]
    by_cases hb : lbit i row
    · refine ⟨j_up I1 90 (s * 3072 + Y * 64 + i) (nI (p + 1)), ⟨fun c hc => by rw [j_up_cell _ hc, f1 c hc], (O1.set (Y := Y) hw hh hs hi hY).iff (fun s' x y => ?_)⟩, ?_⟩
      · constructor
        · rintro ((z | ⟨z1, z2, z3, z4⟩) | ⟨z1, z2, z3⟩)
          · exact Or.inl z
          · exact Or.inr ⟨z1, by omega, z3, z4⟩
          · exact Or.inr ⟨z1, by omega, by rw [z2]; exact hb, z3⟩
        · rintro (z | ⟨z1, z2, z3, z4⟩)
          · exact Or.inl (Or.inl z)
          · by_cases q : x = i
            · exact Or.inr ⟨z1, q, z4⟩
            · exact Or.inl (Or.inr ⟨z1, by omega, z3, z4⟩)
      · rw [B119_65, f1 83 (by decide), e3, if_pos (nI_lt hi (by omega)), if_neg (fun z => ((lbit_at row (by omega)).mp z) hb), e1, if_pos (j_in_nI (by omega) (by decide)), nI_clamp (by omega), byte_p p hp, B119_105, nI_1 i]
    · refine ⟨I1, ⟨f1, O1.iff (fun s' x y => ?_)⟩, ?_⟩
      · constructor
        · rintro (z | ⟨z1, z2, z3, z4⟩)
          · exact Or.inl z
          · exact Or.inr ⟨z1, by omega, z3, z4⟩
        · rintro (z | ⟨z1, z2, z3, z4⟩)
          · exact Or.inl z
          · by_cases q : x = i
            · rw [q] at z3
              exact absurd z3 hb
            · exact Or.inr ⟨z1, by omega, z3, z4⟩
      · rw [B119_65, f1 83 (by decide), e3, if_pos (nI_lt hi (by omega)), if_pos ((lbit_at row (by omega)).mpr hb), B119_105, nI_1 i]) I ⟨fun _ _ => rfl, O.iff (fun s' x y => ⟨Or.inl, fun z => by
      rcases z with z | ⟨-, z, -⟩
      · exact z
      · exact absurd z (Nat.not_lt_zero _)⟩)⟩
  exact ⟨I', f, O', k1⟩
/-- what is near a row -/
def nearL (row near : Int64) (g : Nat) : Prop := ∀ u, u < 64 → (lbit u near ↔ ∃ a, lbit a row ∧ a ≤ u + g ∧ u ≤ a + g)
theorem lc_g {I : Nat → Nat → Int32} {L : Nat → Nat → Int64} {p s r Y g : Nat} (hg : g < 4) (e5 : I 83 5 = nI g) (row : Int64) : ∃ near, nearL row near g ∧ jv d 119 118 [some (.ref 83), some (.int (nI p)), some (.int (nI (48 * s))), some (.int (nI r)), some (.long row), none, some (.int (nI Y)), some (.long row), none, some (.int (nI 1))] [] (shC, I, L, pX pa pb pu pw) = jv d 119 118 [some (.ref 83), some (.int (nI p)), some (.int (nI (48 * s))), some (.int (nI r)), some (.long row), none, some (.int (nI Y)), some (.long near), none, some (.int (nI (g + 1)))] [] (shC, I, L, pX pa pb pu pw) := by
  obtain ⟨near, N, k1⟩ := j_runP (fun i (near : Int64) => jv d 119 118 [some (.ref 83), some (.int (nI p)), some (.int (nI (48 * s))), some (.int (nI r)), some (.long row), none, some (.int (nI Y)), some (.long near), none, some (.int (nI (i + 1)))] [] (shC, I, L, pX pa pb pu pw)) (fun i near => nearL row near i) g (fun i hi near N => by
    refine ⟨near ||| ((row <<< ((nI (i + 1)).toInt64 &&& 63)) ||| ((row.toUInt64 >>> ((nI (i + 1)).toInt64.toUInt64 &&& Int64.toUInt64 63)).toInt64)), fun u hu => ?_, ?_⟩
    · rw [lbit_or, lbit_or, lbit_shl (by omega), lbit_shr (by omega), N u hu]
      constructor
      · rintro (⟨a, z1, z2, z3⟩ | ⟨-, z2, z3⟩ | z)
        · exact ⟨a, z1, by omega, by omega⟩
        · exact ⟨u - (i + 1), z3, by omega, by omega⟩
        · exact ⟨i + 1 + u, z, by omega, by omega⟩
      · rintro ⟨a, z1, z2, z3⟩
        by_cases q1 : a = u + (i + 1)
        · right; right
          rw [show i + 1 + u = a by omega]
          exact z1
        · by_cases q2 : u = a + (i + 1)
          · right; left
            refine ⟨hu, by omega, ?_⟩
            rw [show u - (i + 1) = a by omega]
            exact z1
          · left
            exact ⟨a, z1, by omega, by omega⟩
    · rw [B119_118, e5, if_neg (nI_nlt (by omega) (by omega)), nI_1 (i + 1)]) row (fun u hu => ⟨fun z => ⟨u, z, by omega, by omega⟩, fun z => by
      obtain ⟨a, z1, z2, z3⟩ := z
      rw [show u = a by omega]
      exact z1⟩)
  exact ⟨near, N, k1⟩
theorem lc_v {I : Nat → Nat → Int32} {L : Nat → Nat → Int64} {p s r Y g : Nat} (hg : g < 4) (hs : s < 6) (hY : Y < 48) (e5 : I 83 5 = nI g) (B : barC nr L) (row near : Int64) : ∃ L' z9, (∀ c, c ≠ 89 → L' c = L c) ∧ barC (fun s' x y => nr s' x y ∨ (s' = s ∧ (Y ≤ y + g ∧ y ≤ Y + g) ∧ lbit x near)) L' ∧ jv d 119 162 [some (.ref 83), some (.int (nI p)), some (.int (nI (48 * s))), some (.int (nI r)), some (.long row), none, some (.int (nI Y)), some (.long near), none, some (.int (nI (Y - g)))] [] (shC, I, L, pX pa pb pu pw) = jv d 119 12 [some (.ref 83), some (.int (nI p)), some (.int (nI (48 * s))), some (.int (nI (r + 1))), some (.long row), none, some (.int (nI Y)), some (.long near), none, some (.int z9)] [] (shC, I, L', pX pa pb pu pw) := by
  have hm : ∀ c : Nat, c ≤ 48 → ((if nI Y + nI g < 47 then nI Y + nI g else 47) < nI c ↔ (Y + g < c ∨ 47 < c)) := fun c hc => by
    rw [nI_add]
    by_cases q : Y + g < 47
    · rw [if_pos (show nI (Y + g) < 47 from nI_lt (b := 47) q (by decide)), nI_ltI (by omega) (by omega)]
      omega
    · rw [if_neg (show ¬ nI (Y + g) < 47 from nI_nlt (b := 47) (by omega) (by omega)), show (47 : Int32) = nI 47 from rfl, nI_ltI (by omega) (by omega)]
      omega
  obtain ⟨L', ⟨f, B'⟩, k1⟩ := j_runP (fun i (L : Nat → Nat → Int64) => jv d 119 162 [some (.ref 83), some (.int (nI p)), some (.int (nI (48 * s))), some (.int (nI r)), some (.long row), none, some (.int (nI Y)), some (.long near), none, some (.int (nI (Y - g + i)))] [] (shC, I, L, pX pa pb pu pw)) (fun i L' => (∀ c, c ≠ 89 → L' c = L c) ∧ barC (fun s' x y => nr s' x y ∨ (s' = s ∧ (Y - g ≤ y ∧ y < Y - g + i) ∧ lbit x near)) L') ((if Y + g < 47 then Y + g else 47) + 1 - (Y - g)) (fun i hi L1 hq => by
    obtain ⟨f1, B1⟩ := hq
    have hv : Y - g + i < 48 ∧ Y - g + i ≤ Y + g := by
      by_cases q : Y + g < 47
      · rw [if_pos q] at hi; omega
      · rw [if_neg q] at hi; omega
    refine ⟨j_up L1 89 (48 * s + (Y - g + i)) (L1 89 (48 * s + (Y - g + i)) ||| near), ⟨fun c hc => by rw [j_up_cell _ hc, f1 c hc], (B1.set near hs hv.1).iff (fun s' hs' x hx y hy => ?_)⟩, ?_⟩
    · constructor
      · rintro ((z | ⟨z1, z2, z3⟩) | ⟨z1, z2, z3⟩)
        · exact Or.inl z
        · exact Or.inr ⟨z1, by omega, z3⟩
        · exact Or.inr ⟨z1, by omega, z3⟩
      · rintro (z | ⟨z1, z2, z3⟩)
        · exact Or.inl (Or.inl z)
        · by_cases q : y = Y - g + i
          · exact Or.inr ⟨z1, q, z3⟩
          · exact Or.inl (Or.inr ⟨z1, by omega, z3⟩)
    · rw [B119_162, e5, if_neg (fun z => by have := (hm _ (by omega)).mp z; omega), nI_add, if_pos (j_in_nI (by omega) (by decide)), if_pos (j_in_nI (by omega) (by decide)), nI_clamp (by omega), nI_1]
      rfl) L ⟨fun _ _ => rfl, B.iff (fun s' hs' x hx y hy => ⟨Or.inl, fun z => by
      rcases z with z | ⟨-, z, -⟩
      · exact z
      · omega⟩)⟩
  refine ⟨L', nI (Y - g + ((if Y + g < 47 then Y + g else 47) + 1 - (Y - g))), f, B'.iff (fun s' hs' x hx y hy => ?_), k1.trans ?_⟩
  · have he : (Y - g ≤ y ∧ y < Y - g + ((if Y + g < 47 then Y + g else 47) + 1 - (Y - g))) ↔ (Y ≤ y + g ∧ y ≤ Y + g) := by
      by_cases q : Y + g < 47
      · rw [if_pos q]; omega
      · rw [if_neg q]; omega
    rw [he]
  · rw [B119_162, e5, if_pos ((hm _ (by
      by_cases q : Y + g < 47
      · rw [if_pos q]; omega
      · rw [if_neg q]; omega)).mpr (by
      by_cases q : Y + g < 47
      · rw [if_pos q]; omega
      · rw [if_neg q]; omega)), nI_1 r]
end NEST9
