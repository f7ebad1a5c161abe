/-! PIPES: barAll() of the reference -/
section LEADP
variable {e : Nat} {L : Nat → Nat → Int64} {sv : Nat → Nat → Nat}
def svR (sv : Nat → Nat → Nat) (J : Nat → Nat → Int32) : Prop := ∀ i, i < 12 → ∀ j, j < 7 → J 6 (712 + j + i * 7) = nI (sv i j)
theorem svR.fr {J J' : Nat → Nat → Int32} (h : svR sv J) (h6 : J' 6 = J 6) : svR sv J' := fun i hi j hj => by rw [h6]; exact h i hi j hj
theorem ax_r {B : Nat → Prop} {J : Nat → Nat → Int32} {i y z g : Nat} (hg : g < 2) (hs : svOk sv) (hv : svR sv J) (hi : i < 12) (hy : y < 10) (hz : z < 8) (hb : brR B J) : ∃ J' o6, (∀ c, c ≠ 67 → J' c = J c) ∧ brR (fun c => B c ∨ ∃ x, sv i 1 ≤ x ∧ x ≤ sv i 2 ∧ nr1 g x y z c) J' ∧ jv (e + 1) 347 106 [some (.ref 0), some (.int (nI g)), some (.int (nI i)), some (.int (nI (712 + i * 7))), some (.int (nI z)), some (.int (nI y)), some (.int (nI (sv i 1)))] [] (shR, J, L, pR) = jv (e + 1) 347 83 [some (.ref 0), some (.int (nI g)), some (.int (nI i)), some (.int (nI (712 + i * 7))), some (.int (nI z)), some (.int (nI (y + 1))), o6] [] (shR, J', L, pR) := by
  obtain ⟨s0, s1, s2, s3, s4, s5, s6⟩ := hs i hi
  have e2 : nI (712 + i * 7) + 2 = nI (714 + i * 7) := by rw [show nI (712 + i * 7) + 2 = nI (712 + i * 7 + 2) from nI_add _ 2, show 712 + i * 7 + 2 = 714 + i * 7 by omega]
  obtain ⟨J', ⟨a1, a2⟩, a3⟩ := j_runP (α := Nat → Nat → Int32) (fun k J1 => jv (e + 1) 347 106 [some (.ref 0), some (.int (nI g)), some (.int (nI i)), some (.int (nI (712 + i * 7))), some (.int (nI z)), some (.int (nI y)), some (.int (nI (sv i 1 + k)))] [] (shR, J1, L, pR)) (fun k J1 => (∀ c, c ≠ 67 → J1 c = J c) ∧ brR (fun c => B c ∨ ∃ x, sv i 1 ≤ x ∧ x < sv i 1 + k ∧ nr1 g x y z c) J1) (sv i 2 + 1 - sv i 1) (fun k hk J1 hJ => by
    obtain ⟨b1, b2⟩ := hJ
    try dsimp only
    have h2 : J1 6 (714 + i * 7) = nI (sv i 2) := by rw [b1 6 (by decide)]; exact hv i hi 2 (by decide)
    obtain ⟨J2, c1, c2, c3⟩ := bar_r (e := e) (L := L) (x := sv i 1 + k) (y := y) (z := z) hg (by omega) hy hz b2
    refine ⟨J2, ⟨fun c hc => (c1 c hc).trans (b1 c hc), c2.cg (fun c hc => ?_)⟩, ?_⟩
    · constructor
      · rintro ((h | ⟨x, h1, h2, h3⟩) | h)
        · exact Or.inl h
        · exact Or.inr ⟨x, h1, by omega, h3⟩
        · exact Or.inr ⟨sv i 1 + k, by omega, by omega, h⟩
      · rintro (h | ⟨x, h1, h2, h3⟩)
        · exact Or.inl (Or.inl h)
        · by_cases q : x = sv i 1 + k
          · subst q; exact Or.inr h3
          · exact Or.inl (Or.inr ⟨x, h1, by omega, h3⟩)
    · rw [B347_106, e2, if_pos (j_in_nI (by omega) (by decide)), nI_clamp (by omega), h2, if_neg (nI_nlt (by omega) (by omega)), jgo_some rfl c3]
      dsimp only [Option.toList_none, List.nil_append]
      rw [B347_130, nI_1]
      rfl) J ⟨fun _ _ => rfl, hb.cg (fun c _ => ⟨Or.inl, fun h => h.elim id (fun ⟨x, h1, h2, _⟩ => by omega)⟩)⟩
  have h2 : J' 6 (714 + i * 7) = nI (sv i 2) := by rw [a1 6 (by decide)]; exact hv i hi 2 (by decide)
  refine ⟨J', some (.int (nI (sv i 1 + (sv i 2 + 1 - sv i 1)))), a1, a2.cg (fun c _ => ?_), (show _ = _ from a3).trans ?_⟩
  · constructor
    · rintro (h | ⟨x, h1, h2, h3⟩)
      · exact Or.inl h
      · exact Or.inr ⟨x, h1, by omega, h3⟩
    · rintro (h | ⟨x, h1, h2, h3⟩)
      · exact Or.inl h
      · exact Or.inr ⟨x, h1, by omega, h3⟩
  · rw [B347_106, e2, if_pos (j_in_nI (by omega) (by decide)), nI_clamp (by omega), h2, if_pos (nI_lt (by omega) (by omega)), nI_1]
theorem ay_r {B : Nat → Prop} {J : Nat → Nat → Int32} {i z g : Nat} (hg : g < 2) (hs : svOk sv) (hv : svR sv J) (hi : i < 12) (hz : z < 8) (hb : brR B J) (o6 : Option Value) : ∃ J' o5 o6', (∀ c, c ≠ 67 → J' c = J c) ∧ brR (fun c => B c ∨ ∃ x y, sv i 1 ≤ x ∧ x ≤ sv i 2 ∧ sv i 3 ≤ y ∧ y ≤ sv i 4 ∧ nr1 g x y z c) J' ∧ jv (e + 1) 347 83 [some (.ref 0), some (.int (nI g)), some (.int (nI i)), some (.int (nI (712 + i * 7))), some (.int (nI z)), some (.int (nI (sv i 3))), o6] [] (shR, J, L, pR) = jv (e + 1) 347 49 [some (.ref 0), some (.int (nI g)), some (.int (nI i)), some (.int (nI (712 + i * 7))), some (.int (nI (z + 1))), o5, o6'] [] (shR, J', L, pR) := by
  obtain ⟨s0, s1, s2, s3, s4, s5, s6⟩ := hs i hi
  have e4 : nI (712 + i * 7) + 4 = nI (716 + i * 7) := by rw [show nI (712 + i * 7) + 4 = nI (712 + i * 7 + 4) from nI_add _ 4, show 712 + i * 7 + 4 = 716 + i * 7 by omega]
  have e1 : nI (712 + i * 7) + 1 = nI (713 + i * 7) := by rw [nI_1, show 712 + i * 7 + 1 = 713 + i * 7 by omega]
  obtain ⟨⟨J', q6⟩, ⟨a1, a2⟩, a3⟩ := j_runP (α := (Nat → Nat → Int32) × Option Value) (fun k t => jv (e + 1) 347 83 [some (.ref 0), some (.int (nI g)), some (.int (nI i)), some (.int (nI (712 + i * 7))), some (.int (nI z)), some (.int (nI (sv i 3 + k))), t.2] [] (shR, t.1, L, pR)) (fun k t => (∀ c, c ≠ 67 → t.1 c = J c) ∧ brR (fun c => B c ∨ ∃ x y, sv i 1 ≤ x ∧ x ≤ sv i 2 ∧ sv i 3 ≤ y ∧ y < sv i 3 + k ∧ nr1 g x y z c) t.1) (sv i 4 + 1 - sv i 3) (fun k hk t hJ => by
    obtain ⟨J1, q6⟩ := t
    obtain ⟨b1, b2⟩ := hJ
    dsimp only at b1 b2 ⊢
    have hv1 : svR sv J1 := hv.fr (b1 6 (by decide))
    have h4 : J1 6 (716 + i * 7) = nI (sv i 4) := hv1 i hi 4 (by decide)
    have h1 : J1 6 (713 + i * 7) = nI (sv i 1) := hv1 i hi 1 (by decide)
    obtain ⟨J2, o6', c1, c2, c3⟩ := ax_r (e := e) (L := L) (y := sv i 3 + k) hg hs hv1 hi (by omega) hz b2
    refine ⟨(J2, o6'), ⟨fun c hc => (c1 c hc).trans (b1 c hc), c2.cg (fun c hc => ?_)⟩, ?_⟩
    · constructor
      · rintro ((h | ⟨x, y, h1, h2, h3, h4, h5⟩) | ⟨x, h1, h2, h3⟩)
        · exact Or.inl h
        · exact Or.inr ⟨x, y, h1, h2, h3, by omega, h5⟩
        · exact Or.inr ⟨x, sv i 3 + k, h1, h2, by omega, by omega, h3⟩
      · rintro (h | ⟨x, y, h1, h2, h3, h4, h5⟩)
        · exact Or.inl (Or.inl h)
        · by_cases q : y = sv i 3 + k
          · subst q; exact Or.inr ⟨x, h1, h2, h5⟩
          · exact Or.inl (Or.inr ⟨x, y, h1, h2, h3, by omega, h5⟩)
    · dsimp only
      rw [B347_83, e4, if_pos (j_in_nI (by omega) (by decide)), nI_clamp (n := 716 + i * 7) (by omega), h4, if_neg (nI_nlt (by omega) (by omega)), e1, if_pos (j_in_nI (by omega) (by decide)), nI_clamp (n := 713 + i * 7) (by omega), h1]
      exact c3) (J, o6) ⟨fun _ _ => rfl, hb.cg (fun c _ => ⟨Or.inl, fun h => h.elim id (fun ⟨x, y, h1, h2, h3, h4, _⟩ => by omega)⟩)⟩
  dsimp only at a1 a2 a3
  have h4 : J' 6 (716 + i * 7) = nI (sv i 4) := by rw [a1 6 (by decide)]; exact hv i hi 4 (by decide)
  refine ⟨J', some (.int (nI (sv i 3 + (sv i 4 + 1 - sv i 3)))), q6, a1, a2.cg (fun c _ => ?_), (show _ = _ from a3).trans ?_⟩
  · constructor
    · rintro (h | ⟨x, y, h1, h2, h3, h4, h5⟩)
      · exact Or.inl h
      · exact Or.inr ⟨x, y, h1, h2, h3, by omega, h5⟩
    · rintro (h | ⟨x, y, h1, h2, h3, h4, h5⟩)
      · exact Or.inl h
      · exact Or.inr ⟨x, y, h1, h2, h3, by omega, h5⟩
  · rw [B347_83, e4, if_pos (j_in_nI (by omega) (by decide)), nI_clamp (n := 716 + i * 7) (by omega), h4, if_pos (nI_lt (by omega) (by omega)), nI_1]
/-- one solid -/
theorem az_r {B : Nat → Prop} {J : Nat → Nat → Int32} {i g : Nat} (hg : g < 2) (hs : svOk sv) (hv : svR sv J) (hi : i < 12) (hb : brR B J) (o5 o6 : Option Value) : ∃ J' o4 o5' o6', (∀ c, c ≠ 67 → J' c = J c) ∧ brR (fun c => B c ∨ (sv i 0 = 1 ∧ ∃ x y z, sv i 1 ≤ x ∧ x ≤ sv i 2 ∧ sv i 3 ≤ y ∧ y ≤ sv i 4 ∧ sv i 5 ≤ z ∧ z ≤ sv i 6 ∧ nr1 g x y z c)) J' ∧ jv (e + 1) 347 49 [some (.ref 0), some (.int (nI g)), some (.int (nI i)), some (.int (nI (712 + i * 7))), some (.int (nI (sv i 5))), o5, o6] [] (shR, J, L, pR) = jv (e + 1) 347 148 [some (.ref 0), some (.int (nI g)), some (.int (nI i)), some (.int (nI (712 + i * 7))), some (.int o4), o5', o6'] [] (shR, J', L, pR) := by
  obtain ⟨s0, s1, s2, s3, s4, s5, s6⟩ := hs i hi
  have e6 : nI (712 + i * 7) + 6 = nI (718 + i * 7) := by rw [show nI (712 + i * 7) + 6 = nI (712 + i * 7 + 6) from nI_add _ 6, show 712 + i * 7 + 6 = 718 + i * 7 by omega]
  have e3 : nI (712 + i * 7) + 3 = nI (715 + i * 7) := by rw [show nI (712 + i * 7) + 3 = nI (712 + i * 7 + 3) from nI_add _ 3, show 712 + i * 7 + 3 = 715 + i * 7 by omega]
  by_cases k1 : sv i 0 = 1
  · obtain ⟨⟨J', q5, q6⟩, ⟨a1, a2⟩, a3⟩ := j_runP (α := (Nat → Nat → Int32) × Option Value × Option Value) (fun k t => jv (e + 1) 347 49 [some (.ref 0), some (.int (nI g)), some (.int (nI i)), some (.int (nI (712 + i * 7))), some (.int (nI (sv i 5 + k))), t.2.1, t.2.2] [] (shR, t.1, L, pR)) (fun k t => (∀ c, c ≠ 67 → t.1 c = J c) ∧ brR (fun c => B c ∨ ∃ x y z, sv i 1 ≤ x ∧ x ≤ sv i 2 ∧ sv i 3 ≤ y ∧ y ≤ sv i 4 ∧ sv i 5 ≤ z ∧ z < sv i 5 + k ∧ nr1 g x y z c) t.1) (sv i 6 + 1 - sv i 5) (fun k hk t hJ => by
      obtain ⟨J1, q5, q6⟩ := t
      obtain ⟨b1, b2⟩ := hJ
      dsimp only at b1 b2 ⊢
      have hv1 : svR sv J1 := hv.fr (b1 6 (by decide))
      have h6 : J1 6 (718 + i * 7) = nI (sv i 6) := hv1 i hi 6 (by decide)
      have h0 : J1 6 (712 + i * 7) = nI (sv i 0) := hv1 i hi 0 (by decide)
      have h3 : J1 6 (715 + i * 7) = nI (sv i 3) := hv1 i hi 3 (by decide)
      obtain ⟨J2, o5', o6', c1, c2, c3⟩ := ay_r (e := e) (L := L) (z := sv i 5 + k) hg hs hv1 hi (by omega) b2 q6
      refine ⟨(J2, o5', o6'), ⟨fun c hc => (c1 c hc).trans (b1 c hc), c2.cg (fun c hc => ?_)⟩, ?_⟩
      · constructor
        · rintro ((h | ⟨x, y, z, h1, h2, h3, h4, h5, h6, h7⟩) | ⟨x, y, h1, h2, h3, h4, h5⟩)
          · exact Or.inl h
          · exact Or.inr ⟨x, y, z, h1, h2, h3, h4, h5, by omega, h7⟩
          · exact Or.inr ⟨x, y, sv i 5 + k, h1, h2, h3, h4, by omega, by omega, h5⟩
        · rintro (h | ⟨x, y, z, h1, h2, h3, h4, h5, h6, h7⟩)
          · exact Or.inl (Or.inl h)
          · by_cases q : z = sv i 5 + k
            · subst q; exact Or.inr ⟨x, y, h1, h2, h3, h4, h7⟩
            · exact Or.inl (Or.inr ⟨x, y, z, h1, h2, h3, h4, h5, by omega, h7⟩)
      · dsimp only
        rw [B347_49, e6, if_pos (j_in_nI (by omega) (by decide)), nI_clamp (n := 718 + i * 7) (by omega), h6, if_neg (nI_nlt (by omega) (by omega)), if_pos (j_in_nI (by omega) (by decide)), nI_clamp (n := 712 + i * 7) (by omega), h0, k1, if_pos (by decide), e3, if_pos (j_in_nI (by omega) (by decide)), nI_clamp (n := 715 + i * 7) (by omega), h3]
        exact c3) (J, o5, o6) ⟨fun _ _ => rfl, hb.cg (fun c _ => ⟨Or.inl, fun h => h.elim id (fun ⟨x, y, z, h1, h2, h3, h4, h5, h6, _⟩ => by omega)⟩)⟩
    dsimp only at a1 a2 a3
    have h6 : J' 6 (718 + i * 7) = nI (sv i 6) := by rw [a1 6 (by decide)]; exact hv i hi 6 (by decide)
    refine ⟨J', nI (sv i 5 + (sv i 6 + 1 - sv i 5)), q5, q6, a1, a2.cg (fun c _ => ?_), (show _ = _ from a3).trans ?_⟩
    · constructor
      · rintro (h | ⟨x, y, z, h1, h2, h3, h4, h5, h6, h7⟩)
        · exact Or.inl h
        · exact Or.inr ⟨k1, x, y, z, h1, h2, h3, h4, h5, by omega, h7⟩
      · rintro (h | ⟨-, x, y, z, h1, h2, h3, h4, h5, h6, h7⟩)
        · exact Or.inl h
        · exact Or.inr ⟨x, y, z, h1, h2, h3, h4, h5, by omega, h7⟩
    · rw [B347_49, e6, if_pos (j_in_nI (by omega) (by decide)), nI_clamp (n := 718 + i * 7) (by omega), h6, if_pos (nI_lt (by omega) (by omega))]
  · have h6 : J 6 (718 + i * 7) = nI (sv i 6) := hv i hi 6 (by decide)
    have h0 : J 6 (712 + i * 7) = nI (sv i 0) := hv i hi 0 (by decide)
    refine ⟨J, nI (sv i 5), o5, o6, fun _ _ => rfl, hb.cg (fun c _ => ⟨Or.inl, fun h => h.elim id (fun h => absurd h.1 k1)⟩), ?_⟩
    rw [B347_49, e6, if_pos (j_in_nI (by omega) (by decide)), nI_clamp (n := 718 + i * 7) (by omega), h6]
    by_cases q : sv i 6 < sv i 5
    · rw [if_pos (nI_lt q (by omega))]
    · rw [if_neg (nI_nlt (by omega) (by omega)), if_pos (j_in_nI (by omega) (by decide)), nI_clamp (n := 712 + i * 7) (by omega), h0, if_neg (show ¬ nI (sv i 0) = 1 from fun z => k1 ((nI_eq (b := 1) (by omega) (by decide)).mp z))]
/-- barAll() -/
theorem barAll_r {J : Nat → Nat → Int32} {Tw : Nat → Prop} {g : Nat} (hg : g < 2) (hr : rCst J) (hs : svOk sv) (hv : svR sv J) (ht : ∀ c, c < 1600 → (J 66 c = 0 ↔ ¬ Tw c)) : ∃ J', (∀ c, c ≠ 67 → J' c = J c) ∧ brR (fun c => ∃ y, y < 1600 ∧ ((∃ i, i < 12 ∧ sv i 0 = 1 ∧ so1 sv i y) ∨ Tw y) ∧ nr1 g (y % 20) (y / 20 % 10) (y / 200) c) J' ∧ jv (e + 2) 347 0 [some (.ref 0), some (.int (nI g)), none, none, none, none, none] [] (shR, J, L, pR) = some (none, (shR, J', L, pR)) := by
  have k1 := j_run (fun i => jv (e + 2) 347 2 [some (.ref 0), some (.int (nI g)), some (.int (nI i)), none, none, none, none] [] (shR, va_up J 67 (j_fill (J 67) (fun _ => vp_nar .boolean 0) i), L, pR)) 1600 (fun i hi => by
    rw [B347_2, if_pos (show nI i < 1600 from nI_lt (b := 1600) hi (by decide)), if_pos (j_in_nI hi (by decide)), nI_clamp (n := i) (by omega), nI_1, j_up_fill J 67 i (J 67) (fun _ => vp_nar .boolean 0)])
  rw [j_fill_zero, va_up_same] at k1
  generalize hJ0 : va_up J 67 (j_fill (J 67) (fun _ => vp_nar .boolean 0) 1600) = J0 at k1
  have f0 : ∀ c, c ≠ 67 → J0 c = J c := by
    subst hJ0
    exact fun c hc => va_up_ne _ _ hc
  have b0 : brR (fun _ => False) J0 := by
    subst hJ0
    intro c hc
    rw [va_up_self]
    refine ⟨fun _ z => z, fun _ => ?_⟩
    exact (if_pos hc).trans (show vp_nar .boolean 0 = 0 by decide)
  obtain ⟨⟨J1, q3, q4, q5, q6⟩, ⟨a1, a2⟩, a3⟩ := j_runP (α := (Nat → Nat → Int32) × Option Value × Option Value × Option Value × Option Value) (fun i t => jv (e + 2) 347 24 [some (.ref 0), some (.int (nI g)), some (.int (nI i)), t.2.1, t.2.2.1, t.2.2.2.1, t.2.2.2.2] [] (shR, t.1, L, pR)) (fun i t => (∀ c, c ≠ 67 → t.1 c = J c) ∧ brR (fun c => ∃ k, k < i ∧ sv k 0 = 1 ∧ ∃ x y z, sv k 1 ≤ x ∧ x ≤ sv k 2 ∧ sv k 3 ≤ y ∧ y ≤ sv k 4 ∧ sv k 5 ≤ z ∧ z ≤ sv k 6 ∧ nr1 g x y z c) t.1) 12 (fun i hi t hJ => by
    obtain ⟨J1, q3, q4, q5, q6⟩ := t
    obtain ⟨b1, b2⟩ := hJ
    dsimp only at b1 b2 ⊢
    have hv1 : svR sv J1 := hv.fr (b1 6 (by decide))
    have hr1 : rCst J1 := rCst_eq1 hr (fun c _ _ => b1 c (by omega))
    have h5 : J1 6 (717 + i * 7) = nI (sv i 5) := hv1 i hi 5 (by decide)
    have e5 : nI (712 + i * 7) + 5 = nI (717 + i * 7) := by rw [show nI (712 + i * 7) + 5 = nI (712 + i * 7 + 5) from nI_add _ 5, show 712 + i * 7 + 5 = 717 + i * 7 by omega]
    obtain ⟨J2, o4, o5', o6', c1, c2, c3⟩ := az_r (e := e + 1) (L := L) hg hs hv1 hi b2 q5 q6
    refine ⟨(J2, some (.int (nI (712 + i * 7))), some (.int o4), o5', o6'), ⟨fun c hc => (c1 c hc).trans (b1 c hc), c2.cg (fun c hc => ?_)⟩, ?_⟩
    · constructor
      · rintro (⟨k, h1, h2⟩ | ⟨h1, h2⟩)
        · exact ⟨k, by omega, h2⟩
        · exact ⟨i, by omega, h1, h2⟩
      · rintro ⟨k, h1, h2, h3⟩
        by_cases q : k = i
        · subst q; exact Or.inr ⟨h2, h3⟩
        · exact Or.inl ⟨k, by omega, h2, h3⟩
    · dsimp only
      rw [B347_24, if_pos (show nI i < 12 from nI_lt (b := 12) hi (by decide)), g_at_8_0 hr1]
      dsimp only [Option.toList_some, List.cons_append, List.nil_append]
      rw [B347_38, e5, if_pos (j_in_nI (by omega) (by decide)), nI_clamp (n := 717 + i * 7) (by omega), h5, c3, B347_148, nI_1]) (J0, none, none, none, none) ⟨f0, b0.cg (fun c _ => ⟨False.elim, fun ⟨k, h, _⟩ => absurd h (Nat.not_lt_zero _)⟩)⟩
  dsimp only at a1 a2 a3
  obtain ⟨J2, ⟨g1, g2⟩, g3⟩ := j_runP (α := Nat → Nat → Int32) (fun i J2 => jv (e + 2) 347 156 [some (.ref 0), some (.int (nI g)), some (.int (nI i)), q3, q4, q5, q6] [] (shR, J2, L, pR)) (fun i J2 => (∀ c, c ≠ 67 → J2 c = J c) ∧ brR (fun c => (∃ k, k < 12 ∧ sv k 0 = 1 ∧ ∃ x y z, sv k 1 ≤ x ∧ x ≤ sv k 2 ∧ sv k 3 ≤ y ∧ y ≤ sv k 4 ∧ sv k 5 ≤ z ∧ z ≤ sv k 6 ∧ nr1 g x y z c) ∨ ∃ y, y < i ∧ Tw y ∧ nr1 g (y % 20) (y / 20 % 10) (y / 200) c) J2) 1600 (fun i hi J2 hJ => by
    obtain ⟨b1, b2⟩ := hJ
    try dsimp only
    have ji : j_in (nI i) 1600 = true := j_in_nI hi (by decide)
    have ti : J2 66 i = 0 ↔ ¬ Tw i := by rw [b1 66 (by decide)]; exact ht i hi
    rw [B347_156, if_pos (show nI i < 1600 from nI_lt (b := 1600) hi (by decide)), if_pos ji, nI_clamp (n := i) (by omega)]
    by_cases q : Tw i
    · have ex : nI i - nI i / 20 * 20 = nI (i % 20) := nI_mod (b := 20) (by omega) (by decide)
      have ed : nI i / 20 = nI (i / 20) := nI_div (b := 20) (by omega) (by decide)
      have ey : nI (i / 20) - nI (i / 20) / 10 * 10 = nI (i / 20 % 10) := nI_mod (b := 10) (by omega) (by decide)
      have ez : nI i / 200 = nI (i / 200) := nI_div (b := 200) (by omega) (by decide)
      obtain ⟨J3, c1, c2, c3⟩ := bar_r (e := e + 1) (L := L) (x := i % 20) (y := i / 20 % 10) (z := i / 200) hg (by omega) (by omega) (by omega) b2
      rw [if_neg (fun z => ti.mp z q), if_neg (by decide), if_neg (by decide), if_neg (by decide), if_neg (by decide), ex, ed, ey, ez, jgo_some rfl c3]
      dsimp only [Option.toList_none, List.nil_append]
      rw [B347_193, nI_1]
      refine ⟨J3, ⟨fun c hc => (c1 c hc).trans (b1 c hc), c2.cg (fun c hc => ?_)⟩, rfl⟩
      constructor
      · rintro ((h | ⟨y, h1, h2, h3⟩) | h)
        · exact Or.inl h
        · exact Or.inr ⟨y, by omega, h2, h3⟩
        · exact Or.inr ⟨i, by omega, q, h⟩
      · rintro (h | ⟨y, h1, h2, h3⟩)
        · exact Or.inl (Or.inl h)
        · by_cases z : y = i
          · subst z; exact Or.inr h3
          · exact Or.inl (Or.inr ⟨y, by omega, h2, h3⟩)
    · rw [if_pos (ti.mpr q), B347_193, nI_1]
      refine ⟨J2, ⟨b1, b2.cg (fun c hc => ?_)⟩, rfl⟩
      constructor
      · rintro (h | ⟨y, h1, h2, h3⟩)
        · exact Or.inl h
        · exact Or.inr ⟨y, by omega, h2, h3⟩
      · rintro (h | ⟨y, h1, h2, h3⟩)
        · exact Or.inl h
        · refine Or.inr ⟨y, ?_, h2, h3⟩
          by_cases z : y = i
          · subst z; exact absurd h2 q
          · omega) J1 ⟨a1, a2.cg (fun c _ => ⟨Or.inl, fun h => h.elim id (fun ⟨y, h, _⟩ => absurd h (Nat.not_lt_zero _))⟩)⟩
  refine ⟨J2, g1, g2.cg (fun c hc => ?_), ?_⟩
  · constructor
    · rintro (⟨k, h1, h2, x, y, z, h3, h4, h5, h6, h7, h8, h9⟩ | ⟨y, h1, h2, h3⟩)
      · obtain ⟨s0, s1, s2, s3, s4, s5, s6⟩ := hs k h1
        refine ⟨x + 20 * y + 200 * z, by omega, Or.inl ⟨k, h1, h2, ?_⟩, ?_⟩
        · unfold so1
          omega
        · rw [show (x + 20 * y + 200 * z) % 20 = x by omega, show (x + 20 * y + 200 * z) / 20 % 10 = y by omega, show (x + 20 * y + 200 * z) / 200 = z by omega]
          exact h9
      · exact ⟨y, h1, Or.inr h2, h3⟩
    · rintro ⟨y, h1, ⟨k, h2, h3, h4, h5, h6, h7, h8, h9⟩ | h2, h10⟩
      · exact Or.inl ⟨k, h2, h3, y % 20, y / 20 % 10, y / 200, h4, h5, h6, h7, h8, h9, h10⟩
      · exact Or.inr ⟨y, h1, h2, h10⟩
  · rw [B347_0]
    refine (show _ = _ from k1).trans ?_
    rw [B347_2, if_neg (by decide)]
    refine (show _ = _ from a3).trans ?_
    rw [B347_24, if_neg (by decide)]
    refine (show _ = _ from g3).trans ?_
    rw [B347_156, if_neg (by decide)]
end LEADP
