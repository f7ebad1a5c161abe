/-! PLATES: the order of the pieces, in the reference -/
section NESTH
variable {d e : Nat} {L L' : Nat → Nat → Int64} {a : Nat → Nat → Nat} {cn : Nat → Nat}
def bestR (a : Nat → Nat → Nat) (D : Nat → Prop) (n : Nat) (r : Int32) : Prop := (r = -1 ∧ ∀ k, k < n → D k) ∨ ∃ b, b < n ∧ r = nI b ∧ ¬ D b ∧ ∀ k, k < n → ¬ D k → cellN (a k) 12 < cellN (a b) 12 ∨ (cellN (a k) 12 = cellN (a b) 12 ∧ b ≤ k)
theorem best_r {J : Nat → Nat → Int32} (hr : rCst J) (ha : ∀ k, k < 8 → ∀ j, j < 12 → a k j < 2 ^ 24 ∧ J 6 (600 + k * 14 + j) = nI (a k j)) {q : Nat} : ∃ r, bestR a (fun k => ¬ J 57 k = 0) 8 r ∧ jv (e + 2) 331 41 [some (.ref 0), some (.ref 57), some (.int (nI q)), some (.int (-1)), some (.int 0)] [] (shR, J, L', pR) = jv (e + 2) 331 41 [some (.ref 0), some (.ref 57), some (.int (nI q)), some (.int r), some (.int (nI 8))] [] (shR, J, L', pR) := by
  obtain ⟨r, hB, h4⟩ := j_runP (fun k (r : Int32) => jv (e + 2) 331 41 [some (.ref 0), some (.ref 57), some (.int (nI q)), some (.int r), some (.int (nI k))] [] (shR, J, L', pR)) (fun k r => bestR a (fun k => ¬ J 57 k = 0) k r) 8 (fun k hk r hq => by
    have k8 : nI k < (8 : Int32) := nI_lt (b := 8) hk (by decide)
    have jk : j_in (nI k) 8 = true := j_in_nI hk (by decide)
    have take : bestR a (fun k => ¬ J 57 k = 0) (k + 1) (nI k) → jv (e + 2) 331 73 [some (.ref 0), some (.ref 57), some (.int (nI q)), some (.int r), some (.int (nI k))] [] (shR, J, L', pR) = jv (e + 2) 331 41 [some (.ref 0), some (.ref 57), some (.int (nI q)), some (.int (nI k)), some (.int (nI (k + 1)))] [] (shR, J, L', pR) := fun _ => by rw [B331_73, B331_79, nI_1 k]
    have stay : jv (e + 2) 331 78 [some (.ref 0), some (.ref 57), some (.int (nI q)), some (.int r), some (.int (nI k))] [] (shR, J, L', pR) = jv (e + 2) 331 41 [some (.ref 0), some (.ref 57), some (.int (nI q)), some (.int r), some (.int (nI (k + 1)))] [] (shR, J, L', pR) := by rw [B331_78, B331_79, nI_1 k]
    by_cases q1 : J 57 k = 0
    · rcases hq with ⟨y1, y2⟩ | ⟨b, y1, y2, y3, y4⟩
      · have hb : bestR a (fun k => ¬ J 57 k = 0) (k + 1) (nI k) := Or.inr ⟨k, by omega, rfl, fun z => z q1, fun k' hk' z => by
          by_cases e : k' = k
          · subst e
            exact Or.inr ⟨rfl, Nat.le_refl _⟩
          · exact absurd (y2 k' (by omega)) z⟩
        refine ⟨nI k, hb, ?_⟩
        rw [B331_41, if_pos k8, if_pos jk, nI_clamp (n := k) (by omega), if_pos q1, y1, if_pos (by decide), ← y1]
        exact take hb
      · have lk := cell_le (a k)
        have lb := cell_le (a b)
        have st : jv (e + 2) 331 41 [some (.ref 0), some (.ref 57), some (.int (nI q)), some (.int r), some (.int (nI k))] [] (shR, J, L', pR) = if nI (cellN (a b) 12) < nI (cellN (a k) 12) then jv (e + 2) 331 73 [some (.ref 0), some (.ref 57), some (.int (nI q)), some (.int r), some (.int (nI k))] [] (shR, J, L', pR) else jv (e + 2) 331 78 [some (.ref 0), some (.ref 57), some (.int (nI q)), some (.int r), some (.int (nI k))] [] (shR, J, L', pR) := by
          rw [y2, B331_41, if_pos k8, if_pos jk, nI_clamp (n := k) (by omega), if_pos q1, if_neg (show ¬ nI b < 0 from nI_nlt (b := 0) (by omega) (by omega)), jgo_some (d := e + 1) rfl (cells_r hr hk (ha k hk))]
          dsimp only [Option.toList_some, List.cons_append, List.nil_append]
          rw [B331_65, jgo_some (d := e + 1) rfl (cells_r hr (by omega) (ha b (by omega)))]
          dsimp only [Option.toList_some, List.cons_append, List.nil_append]
          rw [B331_70]
        rw [st]
        by_cases q2 : cellN (a b) 12 < cellN (a k) 12
        · have hb : bestR a (fun k => ¬ J 57 k = 0) (k + 1) (nI k) := Or.inr ⟨k, by omega, rfl, fun z => z q1, fun k' hk' z => by
            by_cases e : k' = k
            · subst e
              exact Or.inr ⟨rfl, Nat.le_refl _⟩
            · have := y4 k' (by omega) z
              omega⟩
          rw [if_pos (nI_lt q2 (by omega))]
          exact ⟨nI k, hb, take hb⟩
        · rw [if_neg (nI_nlt (by omega) (by omega))]
          refine ⟨r, Or.inr ⟨b, by omega, y2, y3, fun k' hk' z => ?_⟩, stay⟩
          by_cases e : k' = k
          · subst e
            omega
          · exact y4 k' (by omega) z
    · refine ⟨r, ?_, ?_⟩
      · rcases hq with ⟨y1, y2⟩ | ⟨b, y1, y2, y3, y4⟩
        · left
          refine ⟨y1, fun k' hk' => ?_⟩
          by_cases e : k' = k
          · subst e
            exact q1
          · exact y2 k' (by omega)
        · right
          refine ⟨b, by omega, y2, y3, fun k' hk' z => ?_⟩
          by_cases e : k' = k
          · subst e
            exact absurd q1 z
          · exact y4 k' (by omega) z
      · rw [B331_41, if_pos k8, if_pos jk, nI_clamp (n := k) (by omega), if_neg q1]
        exact stay) (-1) (Or.inl ⟨rfl, fun k hk => absurd hk (Nat.not_lt_zero _)⟩)
  exact ⟨r, hB, h4⟩
/-- a round of the listing -/
theorem round_r {J : Nat → Nat → Int32} (hr : rCst J) (ha : ∀ k, k < 8 → ∀ j, j < 12 → a k j < 2 ^ 24 ∧ J 6 (600 + k * 14 + j) = nI (a k j)) (hc : ∀ k, k < 8 → cn k ≤ 4 ∧ J 6 (600 + k * 14 + 12) = nI (cn k)) {q N : Nat} (hq : q < 8) (hN : J 0 88 = nI N) (hN4 : N ≤ 28) (hx : ∃ k, k < 8 ∧ J 57 k = 0) (o3 o4 : Option Value) : ∃ b J', b < 8 ∧ J 57 b = 0 ∧ (∀ k, k < 8 → J 57 k = 0 → cellN (a k) 12 < cellN (a b) 12 ∨ (cellN (a k) 12 = cellN (a b) 12 ∧ b ≤ k)) ∧ (∀ k, J' 57 k = if k = b then 1 else J 57 k) ∧ J' 0 88 = nI (N + cn b) ∧ (∀ p, p < N → J' 48 p = J 48 p) ∧ (∀ i, i < cn b → J' 48 (N + i) = nI b) ∧ (∀ c, c ≠ 0 → c ≠ 48 → c ≠ 57 → J' c = J c) ∧ (∀ f, f ≠ 88 → J' 0 f = J 0 f) ∧ ∃ z3 z4 : Option Value, jv (e + 2) 331 30 [some (.ref 0), some (.ref 57), some (.int (nI q)), o3, o4] [] (shR, J, L', pR) = jv (e + 2) 331 30 [some (.ref 0), some (.ref 57), some (.int (nI (q + 1))), z3, z4] [] (shR, J', L', pR) := by
  obtain ⟨r, hB, h4⟩ := best_r (e := e) (L' := L') (q := q) hr ha
  rcases hB with ⟨-, y2⟩ | ⟨b, y1, y2, y3, y4⟩
  · obtain ⟨k, hk, z⟩ := hx
    exact absurd z (y2 k hk)
  · have y3' : J 57 b = 0 := Classical.byContradiction y3
    obtain ⟨c1, c2⟩ := hc b y1
    generalize hJ1 : j_up J 57 b 1 = J1
    have f1 : ∀ c, c ≠ 57 → J1 c = J c := fun c h => by rw [← hJ1, j_up_cell _ h]
    have hr1 : rCst J1 := rCst_eq hr (fun c hc => f1 c (by omega))
    obtain ⟨J', ⟨g1, g2, g3, g4, g5⟩, g6⟩ := j_runP (fun i (J' : Nat → Nat → Int32) => jv (e + 2) 331 93 [some (.ref 0), some (.ref 57), some (.int (nI q)), some (.int (nI b)), some (.int (nI i))] [] (shR, J', L', pR)) (fun i J' => J' 0 88 = nI (N + i) ∧ (∀ p, p < N → J' 48 p = J1 48 p) ∧ (∀ i', i' < i → J' 48 (N + i') = nI b) ∧ (∀ c, c ≠ 0 → c ≠ 48 → J' c = J1 c) ∧ ∀ f, f ≠ 88 → J' 0 f = J1 0 f) (cn b) (fun i hi J2 hm => by
      obtain ⟨m1, m2, m3, m4, m5⟩ := hm
      have hr2 : rCst J2 := rCst_eq1 hr1 (fun c hc h6 => m4 c hc (by omega))
      have s0 : j_up J2 48 (N + i) (nI b) 0 88 = nI (N + i) := by rw [j_up_cell _ (by decide), m1]
      refine ⟨j_up (j_up J2 48 (N + i) (nI b)) 0 88 (nI (N + i + 1)), ⟨by rw [j_up_self]; rfl, fun p hp => ?_, fun i' hi' => ?_, fun c h1 h2 => by rw [j_up_cell _ h1, j_up_cell _ h2, m4 c h1 h2], fun f h => by rw [j_up_own, if_neg h, j_up_cell _ (by decide), m5 f h]⟩, ?_⟩
      · rw [j_up_cell _ (by decide), j_up_own, if_neg (by omega), m2 p hp]
      · rw [j_up_cell _ (by decide), j_up_own]
        by_cases e : i' = i
        · rw [if_pos (by omega)]
        · rw [if_neg (by omega)]
          exact m3 i' (by omega)
      · rw [B331_93, show (12 : Int32) = nI 12 from rfl, g_plt_r hr2]
        dsimp only [Option.toList_some, List.cons_append, List.nil_append]
        rw [B331_108, if_pos (j_in_nI (by omega) (by decide)), nI_clamp (n := 600 + b * 14 + 12) (by omega), m4 6 (by decide) (by decide), f1 6 (by decide), c2, if_pos (nI_lt hi (by omega)), m1, if_pos (j_in_nI (by omega) (by decide)), nI_clamp (n := N + i) (by omega), s0, nI_1 (N + i), nI_1 i]) J1 ⟨by rw [f1 0 (by decide), hN]; rfl, fun _ _ => rfl, fun i' h => absurd h (Nat.not_lt_zero _), fun _ _ _ => rfl, fun _ _ => rfl⟩
    have hr3 : rCst J' := rCst_eq1 hr1 (fun c hc h6 => g4 c hc (by omega))
    refine ⟨b, J', y1, y3', fun k hk z => y4 k hk (fun u => u z), fun k => by rw [g4 57 (by decide) (by decide), ← hJ1, j_up_own], g1, fun p hp => by rw [g2 p hp, f1 48 (by decide)], g3, fun c h1 h2 h3 => by rw [g4 c h1 h2, f1 c h3], fun f h => by rw [g5 f h, f1 0 (by decide)], some (.int (nI b)), some (.int (nI (cn b))), ?_⟩
    rw [B331_30, if_pos (show nI q < 8 from nI_lt (b := 8) hq (by decide))]
    refine h4.trans ?_
    rw [y2, B331_41, if_neg (by decide), if_pos (j_in_nI y1 (by decide)), nI_clamp (n := b) (by omega), show vp_nar .boolean 1 = 1 from by decide, hJ1]
    refine g6.trans ?_
    rw [B331_93, show (12 : Int32) = nI 12 from rfl, g_plt_r hr3]
    dsimp only [Option.toList_some, List.cons_append, List.nil_append]
    rw [B331_108, if_pos (j_in_nI (by omega) (by decide)), nI_clamp (n := 600 + b * 14 + 12) (by omega), g4 6 (by decide) (by decide), f1 6 (by decide), c2, if_neg (nI_nlt (Nat.le_refl _) (by omega)), nI_1 q]
end NESTH
