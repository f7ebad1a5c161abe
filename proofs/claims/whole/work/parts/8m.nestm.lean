/-! PLATES: nest() begins, in both -/
section NESTM
variable {d e : Nat} {pa pb pu pw : Option Nat} {a : Nat → Nat → Nat} {cn : Nat → Nat} {w h : Nat}
theorem list_all {J : Nat → Nat → Int32} {L' : Nat → Nat → Int64} (hr : rCst J) (ha : ∀ k, k < 8 → ∀ j, j < 12 → a k j < 2 ^ 24 ∧ J 6 (600 + k * 14 + j) = nI (a k j)) (hc : ∀ k, k < 8 → cn k ≤ 4 ∧ J 6 (600 + k * 14 + 12) = nI (cn k)) : ∃ od J', frG J J' ∧ lsIn a cn od 8 J' ∧ jv (e + 2) 331 0 [some (.ref 0), none, none, none, none] [] (shR, J, L', pR) = some (none, (shR, J', L', pR)) := by
  obtain ⟨J1, ⟨f1, f2, f3⟩, k1⟩ := j_runP (fun i (J1 : Nat → Nat → Int32) => jv (e + 2) 331 12 [some (.ref 0), some (.ref 57), some (.int (nI i)), none, none] [] (shR, J1, L', pR)) (fun i J1 => frG J J1 ∧ J1 0 88 = nI 0 ∧ ∀ k, k < i → J1 57 k = 0) 8 (fun i hi J1 hm => by
    obtain ⟨m1, m2, m3⟩ := hm
    refine ⟨j_up J1 57 i 0, ⟨⟨fun c h1 h2 h3 => by rw [j_up_cell _ h3, m1.1 c h1 h2 h3], fun f hf => by rw [j_up_cell _ (by decide), m1.2 f hf]⟩, by rw [j_up_cell _ (by decide), m2], fun k hk => ?_⟩, ?_⟩
    · rw [j_up_own]
      by_cases z : k = i
      · rw [if_pos z]
      · rw [if_neg z]
        exact m3 k (by omega)
    · rw [B331_12, if_pos (show nI i < 8 from nI_lt (b := 8) hi (by decide)), if_pos (j_in_nI hi (by decide)), nI_clamp (n := i) (by omega), nI_1 i, show vp_nar .boolean 0 = 0 from by decide]) (j_up J 0 88 0) ⟨⟨fun c h1 _ _ => by rw [j_up_cell _ h1], fun f hf => by rw [j_up_own, if_neg hf]⟩, by rw [j_up_self]; rfl, fun k hk => absurd hk (Nat.not_lt_zero _)⟩
  have S0 : lsIn a cn (fun _ => 0) 0 J1 := ⟨by rw [smN_ext (g := fun _ => 0) (fun k hk => by unfold dnN; rw [if_pos (f3 k hk)]), smN_zero], f2, fun r h => absurd h (Nat.not_lt_zero _), fun k hk z => absurd (f3 k hk) z, fun r' r'' _ h => absurd h (Nat.not_lt_zero _), fun r h => absurd h (Nat.not_lt_zero _)⟩
  obtain ⟨⟨od, J2, z⟩, ⟨g1, g2⟩, k2⟩ := j_runP (fun r (t : (Nat → Nat) × (Nat → Nat → Int32) × (Nat → Option Value)) => jv (e + 2) 331 30 [some (.ref 0), some (.ref 57), some (.int (nI r)), t.2.2 3, t.2.2 4] [] (shR, t.2.1, L', pR)) (fun r t => frG J t.2.1 ∧ lsIn a cn t.1 r t.2.1) 8 (fun r hr8 t ht => by
    obtain ⟨od', J', -, h2, h3, z3, z4, h4⟩ := list_step (e := e) (L' := L') hr ha hc hr8 ht.1 ht.2 (t.2.2 3) (t.2.2 4)
    exact ⟨(od', J', fun i => if i = 3 then z3 else z4), ⟨h2, h3⟩, h4⟩) (fun _ => 0, J1, fun _ => none) ⟨f1, S0⟩
  dsimp only at g1 g2 k2
  refine ⟨od, J2, g1, g2, ?_⟩
  rw [B331_0]
  refine k1.trans ?_
  rw [B331_12, if_neg (by decide)]
  refine k2.trans ?_
  rw [B331_30, if_neg (by decide)]
/-- the reference clears its cells -/
theorem nest_r0 {J : Nat → Nat → Int32} {L' : Nat → Nat → Int64} {g : Nat} (hr : rCst J) (hg : g < 4) (hd : J 0 18 = 0) (ha : ∀ k, k < 8 → ∀ j, j < 12 → a k j < 2 ^ 24 ∧ J 6 (600 + k * 14 + j) = nI (a k j)) (hc : ∀ k, k < 8 → cn k ≤ 4 ∧ J 6 (600 + k * 14 + 12) = nI (cn k)) : ∃ od J', (∀ c, c ≠ 0 → c ≠ 48 → c ≠ 53 → c ≠ 54 → c ≠ 57 → J' c = J c) ∧ (∀ f, f ≠ 87 → f ≠ 88 → f ≠ 89 → J' 0 f = J 0 f) ∧ J' 0 87 = 1 ∧ J' 0 89 = nI 0 ∧ lsIn a cn od 8 J' ∧ barR (fun _ _ _ => False) J' ∧ ownR (fun _ _ _ => 0) J' ∧ jv (e + 4) 334 0 [some (.ref 0), some (.int (nI g)), none] [] (shR, J, L', pR) = jv (e + 4) 334 66 [some (.ref 0), some (.int (nI g)), some (.int (nI 0))] [] (shR, J', L', pR) := by
  have w1 : ∀ c, c ≠ 0 → j_up J 0 87 1 c = J c := fun c hc => by rw [j_up_cell _ hc]
  obtain ⟨od, J1, f1, S1, k1⟩ := list_all (e := e + 1) (L' := L') (J := j_up J 0 87 1) (a := a) (cn := cn) (rCst_eq1 hr (fun c hc _ => w1 c hc)) (fun k hk j hj => by rw [w1 6 (by decide)]; exact ha k hk j hj) (fun k hk => by rw [w1 6 (by decide)]; exact hc k hk)
  obtain ⟨J2, ⟨g1, g2⟩, k2⟩ := j_runP (fun i (J2 : Nat → Nat → Int32) => jv (e + 4) 334 37 [some (.ref 0), some (.int (nI g)), some (.int (nI i))] [] (shR, J2, L', pR)) (fun i J2 => (∀ c, c ≠ 53 → c ≠ 54 → J2 c = j_up J1 0 89 0 c) ∧ ∀ k, k < i → J2 53 k = 0 ∧ J2 54 k = 0) 18432 (fun i hi J2 hm => by
    refine ⟨j_up (j_up J2 53 i 0) 54 i 0, ⟨fun c h1 h2 => by rw [j_up_cell _ h2, j_up_cell _ h1, hm.1 c h1 h2], fun k hk => ?_⟩, ?_⟩
    · rw [j_up_cell (j_up J2 53 i 0) (show (53 : Nat) ≠ 54 by decide), j_up_own, j_up_own, j_up_cell J2 (show (54 : Nat) ≠ 53 by decide)]
      by_cases z : k = i
      · rw [if_pos z, if_pos z]
        exact ⟨rfl, rfl⟩
      · rw [if_neg z, if_neg z]
        exact hm.2 k (by omega)
    · rw [B334_37, if_pos (show nI i < 18432 from nI_lt (b := 18432) hi (by decide)), if_pos (j_in_nI hi (by decide)), if_pos (j_in_nI hi (by decide)), nI_clamp (n := i) (by omega), nI_1 i, show vp_nar .boolean 0 = 0 from by decide]) (j_up J1 0 89 0) ⟨fun _ _ _ => rfl, fun k hk => absurd hk (Nat.not_lt_zero _)⟩
  have q0 : ∀ f, J2 0 f = if f = 89 then 0 else J1 0 f := fun f => by rw [g1 0 (by decide) (by decide), j_up_own]
  have qc : ∀ c, c ≠ 0 → c ≠ 53 → c ≠ 54 → J2 c = J1 c := fun c h0 h1 h2 => by rw [g1 c h1 h2, j_up_cell _ h0]
  refine ⟨od, J2, fun c h0 h1 h2 h3 h4 => by rw [qc c h0 h2 h3, f1.1 c h0 h1 h4, w1 c h0], fun f h1 h2 h3 => by rw [q0, if_neg h3, f1.2 f h2, j_up_own, if_neg h1], by rw [q0, if_neg (by decide), f1.2 87 (by decide), j_up_self], by rw [q0, if_pos rfl]; rfl, ?_, ?_, ?_, ?_⟩
  · obtain ⟨s1, s2, s3, s4, s5, s6⟩ := S1
    have e57 : J2 57 = J1 57 := qc 57 (by decide) (by decide) (by decide)
    have e48 : J2 48 = J1 48 := qc 48 (by decide) (by decide) (by decide)
    unfold lsIn
    have e1 : dnN J2 = dnN J1 := by funext k; unfold dnN; rw [e57]
    rw [e1, e57, e48, q0, if_neg (by decide)]
    exact ⟨s1, s2, s3, s4, s5, s6⟩
  · intro s hs y hy x hx
    rw [(g2 (3072 * s + 64 * y + x) (by omega)).2]
    exact ⟨fun _ z => z, fun _ => rfl⟩
  · intro s hs x y hx hy
    rw [(g2 (3072 * s + 64 * y + x) (by omega)).1]
    rfl
  · rw [B334_0, if_neg (show ¬ nI g < 0 from nI_nlt (b := 0) (by omega) (by omega)), if_neg (show ¬ (3 : Int32) < nI g from nI_nlt (a := 3) (by omega) (by decide)), if_pos hd, if_pos (by decide), jgo_some (d := e + 3) rfl k1]
    dsimp only [Option.toList_none, List.nil_append]
    rw [B334_30]
    refine k2.trans ?_
    rw [B334_37, if_neg (by decide)]
    rfl
/-- the class clears its cells -/
theorem nest_c0 {I : Nat → Nat → Int32} {L : Nat → Nat → Int64} {g : Nat} (hw : w ≤ 64) (hh : h ≤ 48) (e4 : I 2 4 = nI w) (e5 : I 2 5 = nI h) : ∃ I' L', (∀ c, c ≠ 83 → c ≠ 90 → I' c = I c) ∧ (∀ f, f ≠ 1 → f ≠ 2 → f ≠ 3 → f ≠ 4 → f ≠ 5 → I' 83 f = I 83 f) ∧ I' 83 1 = nI 0 ∧ I' 83 2 = nI 0 ∧ I' 83 3 = nI w ∧ I' 83 4 = nI h ∧ I' 83 5 = nI g ∧ (∀ c, c ≠ 89 → L' c = L c) ∧ barC (fun _ _ _ => False) L' ∧ ownC w h (fun _ _ _ => 0) I' ∧ jv (d + 1) 113 0 [some (.ref 83), some (.ref 1), some (.int (nI g)), none, none, none] [] (shC, I, L, pX pa pb pu pw) = jv (d + 1) 113 58 [some (.ref 83), some (.ref 1), some (.int (nI g)), some (.int 0), some (.int (nI 0)), none] [] (shC, I', L', pX pa pb pu pw) := by
  generalize hI1 : j_up (j_up (j_up (j_up (j_up I 83 5 (nI g)) 83 3 (nI w)) 83 4 (nI h)) 83 1 0) 83 2 0 = I1
  have w83 : ∀ f, I1 83 f = if f = 2 then 0 else if f = 1 then 0 else if f = 4 then nI h else if f = 3 then nI w else if f = 5 then nI g else I 83 f := fun f => by rw [← hI1, j_up_own, j_up_own, j_up_own, j_up_own, j_up_own]
  have wo : ∀ c, c ≠ 83 → I1 c = I c := fun c hc => by rw [← hI1, j_up_cell _ hc, j_up_cell _ hc, j_up_cell _ hc, j_up_cell _ hc, j_up_cell _ hc]
  have x83 : va_up I1 90 (j_fill (I1 90) (fun _ => 0) 18432) 83 = I1 83 := va_up_ne _ _ (by decide)
  refine ⟨va_up I1 90 (j_fill (I1 90) (fun _ => 0) 18432), va_up L 89 (j_fillL (L 89) (fun _ => 0) 288), fun c h1 h2 => by rw [va_up_ne _ _ h2, wo c h1], fun f h1 h2 h3 h4 h5 => by rw [x83, w83, if_neg h2, if_neg h1, if_neg h4, if_neg h3, if_neg h5], by rw [x83, w83]; rfl, by rw [x83, w83]; rfl, by rw [x83, w83]; rfl, by rw [x83, w83]; rfl, by rw [x83, w83]; rfl, fun c hc => by rw [va_up_ne _ _ hc], ?_, ?_, ?_⟩
  · intro s hs y hy u hu
    have : va_up L 89 (j_fillL (L 89) (fun _ => 0) 288) 89 (48 * s + y) = 0 := by
      rw [va_up_self]
      show (if 48 * s + y < 288 then (0 : Int64) else _) = 0
      rw [if_pos (by omega)]
    rw [this]
    exact ⟨fun z => lbit_0 u z, False.elim⟩
  · intro s hs x y hx hy
    rw [va_up_self]
    show (if s * 3072 + y * 64 + x < 18432 then (0 : Int32) else _) = nI 0
    rw [if_pos (by omega)]
    rfl
  · have a5 : j_up I 83 5 (nI g) 2 = I 2 := j_up_cell _ (by decide) _ _
    have a3 : j_up (j_up I 83 5 (nI g)) 83 3 (nI w) 2 = I 2 := by rw [j_up_cell _ (by decide), a5]
    rw [B113_0, g_of1_0_4]
    dsimp only [Option.toList_some, List.cons_append, List.nil_append]
    rw [a5, e4, B113_13, g_of1_0_5]
    dsimp only [Option.toList_some, List.cons_append, List.nil_append]
    rw [a3, e5, B113_24, hI1, jgo_some (d := d) rfl (fill_long (a := 89) (n := 288) rfl (by decide) 0 none none I1 L _)]
    dsimp only [Option.toList_none, List.nil_append]
    rw [B113_45, g_fill_b (n := 18432) rfl (by decide)]
    dsimp only [Option.toList_none, List.nil_append]
    rw [B113_53]
    rfl
end NESTM
