/-! PIPES: the solids' cells, class -/
section LEADO
variable {d : Nat} {L : Nat → Nat → Int64} {pa pb pu pw : Option Nat} {sv : Nat → Nat → Nat}
/-- a solid's cells -/
def so1 (sv : Nat → Nat → Nat) (i c : Nat) : Prop := sv i 1 ≤ c % 20 ∧ c % 20 ≤ sv i 2 ∧ sv i 3 ≤ c / 20 % 10 ∧ c / 20 % 10 ≤ sv i 4 ∧ sv i 5 ≤ c / 200 ∧ c / 200 ≤ sv i 6
def svOk (sv : Nat → Nat → Nat) : Prop := ∀ i, i < 12 → sv i 0 < 2 ∧ sv i 1 < 20 ∧ sv i 2 < 20 ∧ sv i 3 < 10 ∧ sv i 4 < 10 ∧ sv i 5 < 8 ∧ sv i 6 < 8
def svC (sv : Nat → Nat → Nat) (I : Nat → Nat → Int32) : Prop := ∀ i, i < 12 → ∀ j, j < 7 → I 2 (712 + j + i * 7) = nI (sv i j)
def tkC (Tk : Nat → Prop) (I : Nat → Nat → Int32) : Prop := ∀ c, c < 1600 → (I 101 c = 0 ↔ ¬ Tk c)
theorem tkC.cg {B B' : Nat → Prop} {I : Nat → Nat → Int32} (h : tkC B I) (hB : ∀ c, c < 1600 → (B c ↔ B' c)) : tkC B' I := fun c hc => by rw [h c hc, hB c hc]
theorem tkC.set {B : Nat → Prop} {I : Nat → Nat → Int32} (h : tkC B I) (y : Nat) : tkC (fun c => B c ∨ c = y) (j_up I 101 y (vp_nar .byte 1)) := by
  intro c hc
  rw [j_up_own]
  by_cases q : c = y
  · rw [if_pos q]
    constructor
    · intro z; exact absurd z (by decide)
    · intro z; exact absurd (Or.inr q) z
  · rw [if_neg q, h c hc]
    constructor
    · intro z w; exact w.elim z q
    · intro z w; exact z (Or.inl w)
theorem tx_c {Tk : Nat → Prop} {I : Nat → Nat → Int32} {i y z : Nat} (hs : svOk sv) (hv : svC sv I) (hi : i < 12) (hy : y < 10) (hz : z < 8) (ht : tkC Tk I) : ∃ I' o5, (∀ c, c ≠ 101 → I' c = I c) ∧ tkC (fun c => Tk c ∨ (sv i 1 ≤ c % 20 ∧ c % 20 ≤ sv i 2 ∧ c / 20 % 10 = y ∧ c / 200 = z)) I' ∧ jv (d + 1) 82 55 [some (.ref 96), some (.ref 1), some (.int (nI i)), some (.int (nI z)), some (.int (nI y)), some (.int (nI (sv i 1)))] [] (shC, I, L, pX pa pb pu pw) = jv (d + 1) 82 32 [some (.ref 96), some (.ref 1), some (.int (nI i)), some (.int (nI z)), some (.int (nI (y + 1))), o5] [] (shC, I', L, pX pa pb pu pw) := by
  obtain ⟨s0, s1, s2, s3, s4, s5, s6⟩ := hs i hi
  obtain ⟨I', ⟨a1, a2⟩, a3⟩ := j_runP (α := Nat → Nat → Int32) (fun k I1 => jv (d + 1) 82 55 [some (.ref 96), some (.ref 1), some (.int (nI i)), some (.int (nI z)), some (.int (nI y)), some (.int (nI (sv i 1 + k)))] [] (shC, I1, L, pX pa pb pu pw)) (fun k I1 => (∀ c, c ≠ 101 → I1 c = I c) ∧ tkC (fun c => Tk c ∨ (sv i 1 ≤ c % 20 ∧ c % 20 < sv i 1 + k ∧ c / 20 % 10 = y ∧ c / 200 = z)) I1) (sv i 2 + 1 - sv i 1) (fun k hk I1 hI => by
    obtain ⟨b1, b2⟩ := hI
    try dsimp only
    have h2 : I1 2 (714 + i * 7) = nI (sv i 2) := by rw [b1 2 (by decide)]; exact hv i hi 2 (by decide)
    refine ⟨j_up I1 101 (sv i 1 + k + 20 * y + 200 * z) (vp_nar .byte 1), ⟨fun c hc => by rw [j_up_cell _ hc, b1 c hc], (b2.set _).cg (fun c hc => ?_)⟩, ?_⟩
    · constructor
      · rintro ((h | h) | h)
        · exact Or.inl h
        · exact Or.inr (by omega)
        · exact Or.inr (by omega)
      · rintro (h | h)
        · exact Or.inl (Or.inl h)
        · by_cases q : c % 20 < sv i 1 + k
          · exact Or.inl (Or.inr (by omega))
          · exact Or.inr (by omega)
    · rw [B82_55, g_of1_8_2 hi, h2]
      dsimp only [Option.toList_some, List.cons_append, List.nil_append]
      rw [B82_65, if_neg (nI_nlt (by omega) (by omega)), jgo_some rfl (at_c _ _ _)]
      dsimp only [Option.toList_some, List.cons_append, List.nil_append]
      rw [B82_80, if_pos (j_in_nI (by omega) (by decide)), nI_clamp (by omega), nI_1]
      rfl) I ⟨fun _ _ => rfl, ht.cg (fun c _ => ⟨Or.inl, fun h => h.elim id (fun h => by omega)⟩)⟩
  have h2 : I' 2 (714 + i * 7) = nI (sv i 2) := by rw [a1 2 (by decide)]; exact hv i hi 2 (by decide)
  refine ⟨I', some (.int (nI (sv i 1 + (sv i 2 + 1 - sv i 1)))), a1, a2.cg (fun c _ => ?_), (show _ = _ from a3).trans ?_⟩
  · constructor
    · rintro (h | h)
      · exact Or.inl h
      · exact Or.inr (by omega)
    · rintro (h | h)
      · exact Or.inl h
      · exact Or.inr (by omega)
  · rw [B82_55, g_of1_8_2 hi, h2]
    dsimp only [Option.toList_some, List.cons_append, List.nil_append]
    rw [B82_65, if_pos (nI_lt (by omega) (by omega)), nI_1]
theorem ty_c {Tk : Nat → Prop} {I : Nat → Nat → Int32} {i z : Nat} (hs : svOk sv) (hv : svC sv I) (hi : i < 12) (hz : z < 8) (ht : tkC Tk I) (o5 : Option Value) : ∃ I' o4 o5', (∀ c, c ≠ 101 → I' c = I c) ∧ tkC (fun c => Tk c ∨ (sv i 1 ≤ c % 20 ∧ c % 20 ≤ sv i 2 ∧ sv i 3 ≤ c / 20 % 10 ∧ c / 20 % 10 ≤ sv i 4 ∧ c / 200 = z)) I' ∧ jv (d + 1) 82 32 [some (.ref 96), some (.ref 1), some (.int (nI i)), some (.int (nI z)), some (.int (nI (sv i 3))), o5] [] (shC, I, L, pX pa pb pu pw) = jv (d + 1) 82 9 [some (.ref 96), some (.ref 1), some (.int (nI i)), some (.int (nI (z + 1))), o4, o5'] [] (shC, I', L, pX pa pb pu pw) := by
  obtain ⟨s0, s1, s2, s3, s4, s5, s6⟩ := hs i hi
  obtain ⟨⟨I', q5⟩, ⟨a1, a2⟩, a3⟩ := j_runP (α := (Nat → Nat → Int32) × Option Value) (fun k t => jv (d + 1) 82 32 [some (.ref 96), some (.ref 1), some (.int (nI i)), some (.int (nI z)), some (.int (nI (sv i 3 + k))), t.2] [] (shC, t.1, L, pX pa pb pu pw)) (fun k t => (∀ c, c ≠ 101 → t.1 c = I c) ∧ tkC (fun c => Tk c ∨ (sv i 1 ≤ c % 20 ∧ c % 20 ≤ sv i 2 ∧ sv i 3 ≤ c / 20 % 10 ∧ c / 20 % 10 < sv i 3 + k ∧ c / 200 = z)) t.1) (sv i 4 + 1 - sv i 3) (fun k hk t hI => by
    obtain ⟨I1, q5⟩ := t
    obtain ⟨b1, b2⟩ := hI
    dsimp only at b1 b2 ⊢
    have hv1 : svC sv I1 := fun i' hi' j hj => by rw [b1 2 (by decide)]; exact hv i' hi' j hj
    have h4 : I1 2 (716 + i * 7) = nI (sv i 4) := hv1 i hi 4 (by decide)
    have h1 : I1 2 (713 + i * 7) = nI (sv i 1) := hv1 i hi 1 (by decide)
    obtain ⟨I2, o5', c1, c2, c3⟩ := tx_c (d := d) (L := L) (pa := pa) (pb := pb) (pu := pu) (pw := pw) (y := sv i 3 + k) hs hv1 hi (by omega) hz b2
    refine ⟨(I2, o5'), ⟨fun c hc => (c1 c hc).trans (b1 c hc), c2.cg (fun c hc => ?_)⟩, ?_⟩
    · constructor
      · rintro ((h | h) | h)
        · exact Or.inl h
        · exact Or.inr (by omega)
        · exact Or.inr (by omega)
      · rintro (h | h)
        · exact Or.inl (Or.inl h)
        · by_cases q : c / 20 % 10 < sv i 3 + k
          · exact Or.inl (Or.inr (by omega))
          · exact Or.inr (by omega)
    · dsimp only
      rw [B82_32, g_of1_8_4 hi, h4]
      dsimp only [Option.toList_some, List.cons_append, List.nil_append]
      rw [B82_42, if_neg (nI_nlt (by omega) (by omega)), g_of1_8_1 hi, h1]
      dsimp only [Option.toList_some, List.cons_append, List.nil_append]
      rw [B82_53]
      exact c3) (I, o5) ⟨fun _ _ => rfl, ht.cg (fun c _ => ⟨Or.inl, fun h => h.elim id (fun h => by omega)⟩)⟩
  dsimp only at a1 a2 a3
  have h4 : I' 2 (716 + i * 7) = nI (sv i 4) := by rw [a1 2 (by decide)]; exact hv i hi 4 (by decide)
  refine ⟨I', some (.int (nI (sv i 3 + (sv i 4 + 1 - sv i 3)))), q5, a1, a2.cg (fun c _ => ?_), (show _ = _ from a3).trans ?_⟩
  · constructor
    · rintro (h | h)
      · exact Or.inl h
      · exact Or.inr (by omega)
    · rintro (h | h)
      · exact Or.inl h
      · exact Or.inr (by omega)
  · rw [B82_32, g_of1_8_4 hi, h4]
    dsimp only [Option.toList_some, List.cons_append, List.nil_append]
    rw [B82_42, if_pos (nI_lt (by omega) (by omega)), nI_1]
/-- takeSolid() -/
theorem take_c {Tk : Nat → Prop} {I : Nat → Nat → Int32} {i : Nat} (hs : svOk sv) (hv : svC sv I) (hi : i < 12) (ht : tkC Tk I) : ∃ I', (∀ c, c ≠ 101 → I' c = I c) ∧ tkC (fun c => Tk c ∨ so1 sv i c) I' ∧ jv (d + 1) 82 0 [some (.ref 96), some (.ref 1), some (.int (nI i)), none, none, none] [] (shC, I, L, pX pa pb pu pw) = some (none, (shC, I', L, pX pa pb pu pw)) := by
  obtain ⟨s0, s1, s2, s3, s4, s5, s6⟩ := hs i hi
  obtain ⟨⟨I', q4, q5⟩, ⟨a1, a2⟩, a3⟩ := j_runP (α := (Nat → Nat → Int32) × Option Value × Option Value) (fun k t => jv (d + 1) 82 9 [some (.ref 96), some (.ref 1), some (.int (nI i)), some (.int (nI (sv i 5 + k))), t.2.1, t.2.2] [] (shC, t.1, L, pX pa pb pu pw)) (fun k t => (∀ c, c ≠ 101 → t.1 c = I c) ∧ tkC (fun c => Tk c ∨ (sv i 1 ≤ c % 20 ∧ c % 20 ≤ sv i 2 ∧ sv i 3 ≤ c / 20 % 10 ∧ c / 20 % 10 ≤ sv i 4 ∧ sv i 5 ≤ c / 200 ∧ c / 200 < sv i 5 + k)) t.1) (sv i 6 + 1 - sv i 5) (fun k hk t hI => by
    obtain ⟨I1, q4, q5⟩ := t
    obtain ⟨b1, b2⟩ := hI
    dsimp only at b1 b2 ⊢
    have hv1 : svC sv I1 := fun i' hi' j hj => by rw [b1 2 (by decide)]; exact hv i' hi' j hj
    have h6 : I1 2 (718 + i * 7) = nI (sv i 6) := hv1 i hi 6 (by decide)
    have h3 : I1 2 (715 + i * 7) = nI (sv i 3) := hv1 i hi 3 (by decide)
    obtain ⟨I2, o4', o5', c1, c2, c3⟩ := ty_c (d := d) (L := L) (pa := pa) (pb := pb) (pu := pu) (pw := pw) (z := sv i 5 + k) hs hv1 hi (by omega) b2 q5
    refine ⟨(I2, o4', o5'), ⟨fun c hc => (c1 c hc).trans (b1 c hc), c2.cg (fun c hc => ?_)⟩, ?_⟩
    · constructor
      · rintro ((h | h) | h)
        · exact Or.inl h
        · exact Or.inr (by omega)
        · exact Or.inr (by omega)
      · rintro (h | h)
        · exact Or.inl (Or.inl h)
        · by_cases q : c / 200 < sv i 5 + k
          · exact Or.inl (Or.inr (by omega))
          · exact Or.inr (by omega)
    · dsimp only
      rw [B82_9, g_of1_8_6 hi, h6]
      dsimp only [Option.toList_some, List.cons_append, List.nil_append]
      rw [B82_19, if_neg (nI_nlt (by omega) (by omega)), g_of1_8_3 hi, h3]
      dsimp only [Option.toList_some, List.cons_append, List.nil_append]
      rw [B82_30]
      exact c3) (I, none, none) ⟨fun _ _ => rfl, ht.cg (fun c _ => ⟨Or.inl, fun h => h.elim id (fun h => by omega)⟩)⟩
  dsimp only at a1 a2 a3
  have h6 : I' 2 (718 + i * 7) = nI (sv i 6) := by rw [a1 2 (by decide)]; exact hv i hi 6 (by decide)
  have h5 : I 2 (717 + i * 7) = nI (sv i 5) := hv i hi 5 (by decide)
  refine ⟨I', a1, a2.cg (fun c _ => ?_), ?_⟩
  · unfold so1
    constructor
    · rintro (h | h)
      · exact Or.inl h
      · exact Or.inr (by omega)
    · rintro (h | h)
      · exact Or.inl h
      · exact Or.inr (by omega)
  · rw [B82_0, g_of1_8_5 hi, h5]
    dsimp only [Option.toList_some, List.cons_append, List.nil_append]
    rw [B82_8]
    refine (show _ = _ from a3).trans ?_
    rw [B82_9, g_of1_8_6 hi, h6]
    dsimp only [Option.toList_some, List.cons_append, List.nil_append]
    rw [B82_19, if_pos (nI_lt (by omega) (by omega))]
end LEADO
