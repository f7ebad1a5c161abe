/-! bars(): how many, and which -/
def bMod0 (B C : Nat) (len : Nat → Nat) (I J : Nat → Nat → Int32) : Prop := B ≤ 4000 ∧ C ≤ 50 ∧ (∀ k, k < 9 → len k ≤ 4000 ∧ I 2 (879 + k) = nI (len k) ∧ J 6 (879 + k) = nI (len k)) ∧ I 2 2 = nI B ∧ J 6 2 = nI B ∧ I 2 3 = nI C ∧ J 6 3 = nI C ∧ rCst J
theorem bMod0.to {B C : Nat} {len : Nat → Nat} {I J I' J' : Nat → Nat → Int32} (h : bMod0 B C len I J) (hl : ∀ k, k < 9 → len k ≤ B) (hI : I' 2 = I 2) (hJ : ∀ c, 0 < c → c < 7 → J' c = J c) : bMod B C len I' J' := by
  obtain ⟨h1, h2, h3, h4, h5, h6, h7, g1, g2, g3, g4, g5⟩ := h
  refine ⟨h1, h2, fun k hk => ⟨hl k hk, ?_, ?_⟩, ?_, ?_, ?_, ?_, fun t ht => by rw [hJ 1 (by decide) (by decide)]; exact g1 t ht, fun t ht => by rw [hJ 2 (by decide) (by decide)]; exact g2 t ht, fun t ht => by rw [hJ 3 (by decide) (by decide)]; exact g3 t ht, fun t ht => by rw [hJ 4 (by decide) (by decide)]; exact g4 t ht, fun t ht => by rw [hJ 5 (by decide) (by decide)]; exact g5 t ht⟩
  · rw [hI]; exact (h3 k hk).2.1
  · rw [hJ 6 (by decide) (by decide)]; exact (h3 k hk).2.2
  · rw [hI]; exact h4
  · rw [hJ 6 (by decide) (by decide)]; exact h5
  · rw [hI]; exact h6
  · rw [hJ 6 (by decide) (by decide)]; exact h7
/-- what both know of the bars -/
def barRel (len : Nat → Nat) (I J : Nat → Nat → Int32) : Prop := (I 107 2 = -1 ∧ J 0 104 = -2) ∨ ∃ n : Nat, n ≤ 9 ∧ I 107 2 = nI n ∧ J 0 104 = nI n ∧ ∀ j, j < 9 → 0 < len j → I 108 j = J 60 j
section BARZ
variable {pa pb pu pw : Option Nat} {L L' : Nat → Nat → Int64} {B C : Nat} {len : Nat → Nat} {d e : Nat} {I J : Nat → Nat → Int32}
theorem chk_c1 (hB : B ≤ 4000) (hl : ∀ k, k < 9 → len k ≤ 4000 ∧ I 2 (879 + k) = nI (len k)) (h2 : I 2 2 = nI B) {k : Nat} (hk : k < 9) : jv (d + 1) 131 12 [some (.ref 107), some (.ref 1), some (.int (nI k))] [] (shC, I, L, pX pa pb pu pw) = if B < len k then some (none, (shC, I, L, pX pa pb pu pw)) else jv (d + 1) 131 12 [some (.ref 107), some (.ref 1), some (.int (nI (k + 1)))] [] (shC, I, L, pX pa pb pu pw) := by
  have h3 := hl k hk
  rw [B131_12, if_pos (show nI k < (9 : Int32) from nI_lt hk (by decide)), g_of1_11_0 hk]
  dsimp only [Option.toList_some, List.cons_append, List.nil_append]
  rw [B131_26, g_of1_0_2]
  dsimp only [Option.toList_some, List.cons_append, List.nil_append]
  rw [B131_33, h3.2, h2, nI_1]
  by_cases hx : B < len k
  · rw [if_pos hx, if_pos (nI_lt hx (by omega))]
  · rw [if_neg hx, if_neg (nI_nlt (by omega) (by omega))]
theorem chk_r1 (hB : B ≤ 4000) (hl : ∀ k, k < 9 → len k ≤ 4000 ∧ J 6 (879 + k) = nI (len k)) (h2 : J 6 2 = nI B) (hc : rCst J) {k : Nat} (hk : k < 9) (o2 : Option Value) : jv (e + 1) 342 23 [some (.ref 0), some (.int (nI k)), o2] [] (shR, J, L', pR) = if B < len k then some (some (.int (-2)), (shR, J, L', pR)) else jv (e + 1) 342 23 [some (.ref 0), some (.int (nI (k + 1))), o2] [] (shR, J, L', pR) := by
  have h3 := hl k hk
  rw [B342_23, if_pos (show nI k < (9 : Int32) from nI_lt hk (by decide)), g_at_11_0 hc]
  dsimp only [Option.toList_some, List.cons_append, List.nil_append]
  rw [B342_41, if_pos (j_in_nI (by omega) (by decide)), g_at_0_2 hc]
  dsimp only [Option.toList_some, List.cons_append, List.nil_append]
  rw [B342_53, if_pos (j_in_nI (by decide) (by decide)), nI_clamp (n := 2) (by decide), nI_clamp (n := 879 + k) (by omega), h3.2, h2, nI_1]
  by_cases hx : B < len k
  · rw [if_pos hx, if_pos (nI_lt hx (by omega))]
  · rw [if_neg hx, if_neg (nI_nlt (by omega) (by omega))]
/-- a rod is longer than a bar -/
theorem chk_bad (hB : B ≤ 4000) (hl : ∀ k, k < 9 → len k ≤ 4000 ∧ I 2 (879 + k) = nI (len k) ∧ J 6 (879 + k) = nI (len k)) (h2 : I 2 2 = nI B) (h2' : J 6 2 = nI B) (hc : rCst J) (o2 : Option Value) : ∀ m k, k + m = 9 → (∃ j, k ≤ j ∧ j < 9 ∧ B < len j) → jv (d + 1) 131 12 [some (.ref 107), some (.ref 1), some (.int (nI k))] [] (shC, I, L, pX pa pb pu pw) = some (none, (shC, I, L, pX pa pb pu pw)) ∧ jv (e + 1) 342 23 [some (.ref 0), some (.int (nI k)), o2] [] (shR, J, L', pR) = some (some (.int (-2)), (shR, J, L', pR)) := by
  intro m
  induction m with
  | zero => rintro k hk ⟨j, h1, h3, _⟩; omega
  | succ m ih =>
    rintro k hk ⟨j, h1, h3, h4⟩
    rw [chk_c1 hB (fun k hk => ⟨(hl k hk).1, (hl k hk).2.1⟩) h2 (by omega), chk_r1 hB (fun k hk => ⟨(hl k hk).1, (hl k hk).2.2⟩) h2' hc (by omega)]
    by_cases hx : B < len k
    · rw [if_pos hx, if_pos hx]; exact ⟨rfl, rfl⟩
    · rw [if_neg hx, if_neg hx]
      have hjk : j ≠ k := fun q => hx (by rw [← q]; exact h4)
      exact ih (k + 1) (by omega) ⟨j, by omega, h3, h4⟩
/-- no rod is -/
theorem chk_good (hB : B ≤ 4000) (hl : ∀ k, k < 9 → len k ≤ 4000 ∧ I 2 (879 + k) = nI (len k) ∧ J 6 (879 + k) = nI (len k)) (h2 : I 2 2 = nI B) (h2' : J 6 2 = nI B) (hc : rCst J) (hg : ∀ k, k < 9 → len k ≤ B) (o2 : Option Value) : jv (d + 1) 131 12 [some (.ref 107), some (.ref 1), some (.int (nI 0))] [] (shC, I, L, pX pa pb pu pw) = jv (d + 1) 131 45 [some (.ref 107), some (.ref 1), some (.int 0)] [] (shC, I, L, pX pa pb pu pw) ∧ jv (e + 1) 342 23 [some (.ref 0), some (.int (nI 0)), o2] [] (shR, J, L', pR) = jv (e + 1) 342 70 [some (.ref 0), some (.int 0), some (.int 0)] [] (shR, J, L', pR) := by
  constructor
  · have h := j_run (fun k => jv (d + 1) 131 12 [some (.ref 107), some (.ref 1), some (.int (nI k))] [] (shC, I, L, pX pa pb pu pw)) 9 (fun k hk => by
      show jv (d + 1) 131 12 _ _ _ = jv (d + 1) 131 12 _ _ _
      rw [chk_c1 hB (fun k hk => ⟨(hl k hk).1, (hl k hk).2.1⟩) h2 hk, if_neg (by have := hg k hk; omega)])
    refine Eq.trans h ?_
    show jv (d + 1) 131 12 [some (.ref 107), some (.ref 1), some (.int (nI 9))] [] (shC, I, L, pX pa pb pu pw) = _
    rw [B131_12, if_neg (by decide)]
  · have h := j_run (fun k => jv (e + 1) 342 23 [some (.ref 0), some (.int (nI k)), o2] [] (shR, J, L', pR)) 9 (fun k hk => by
      show jv (e + 1) 342 23 _ _ _ = jv (e + 1) 342 23 _ _ _
      rw [chk_r1 hB (fun k hk => ⟨(hl k hk).1, (hl k hk).2.2⟩) h2' hc hk, if_neg (by have := hg k hk; omega)])
    refine Eq.trans h ?_
    show jv (e + 1) 342 23 [some (.ref 0), some (.int (nI 9)), o2] [] (shR, J, L', pR) = _
    rw [B342_23, if_neg (by decide)]
theorem used_0 : jv (e + 1) 342 70 [some (.ref 0), some (.int 0), some (.int 0)] [] (shR, J, L', pR) = jv (e + 1) 342 89 [some (.ref 0), some (.int 0), some (.int 9)] [] (shR, va_up J 61 (j_fill (J 61) (fun _ => 0) 9), L', pR) := by
  have h := j_run (fun i => jv (e + 1) 342 70 [some (.ref 0), some (.int 0), some (.int (nI i))] [] (shR, va_up J 61 (j_fill (J 61) (fun _ => 0) i), L', pR)) 9 (fun i hi => by
    show jv (e + 1) 342 70 _ _ _ = jv (e + 1) 342 70 _ _ _
    rw [B342_70, if_pos (show nI i < (9 : Int32) from nI_lt hi (by decide)), if_pos (j_in_nI hi (by decide)), nI_clamp (by omega), j_up_fill J 61 i (J 61) (fun _ => 0), nI_1])
  have e0 : va_up J 61 (j_fill (J 61) (fun _ => 0) 0) = J := by
    rw [j_fill_zero]
    funext b
    by_cases hb : b = 61
    · rw [hb, va_up_self]
    · rw [va_up_ne _ _ hb]
  rw [e0] at h
  refine Eq.trans h ?_
  rw [B342_70, if_neg (by decide)]
  rfl
def bzQ (len : Nat → Nat) (L L' : Nat → Nat → Int64) (pa pb pu pw : Option Nat) (I J : Nat → Nat → Int32) : Option Value → jS → Option Value → jS → Prop := fun v S w T => ∃ (r : Nat) (I' J' : Nat → Nat → Int32), r ≤ 9 ∧ v = none ∧ w = some (.int (nI r)) ∧ S = (shC, I', L, pX pa pb pu pw) ∧ T = (shR, J', L', pR) ∧ (∀ c, c ≠ 107 → c ≠ 108 → c ≠ 109 → I' c = I c) ∧ (∀ f, f ≠ 2 → I' 107 f = I 107 f) ∧ (∀ c, c ≠ 0 → c ≠ 60 → c ≠ 61 → J' c = J c) ∧ (∀ f, f ≠ 104 → J' 0 f = J 0 f) ∧ I' 107 2 = nI r ∧ J' 0 104 = nI r ∧ ∀ j, j < 9 → 0 < len j → I' 108 j = J' 60 j
theorem most_step {n : Nat} (hn : n ≤ 9) {I J : Nat → Nat → Int32} (hM : bMod B C len I J) (hu : ∀ b, b < 9 → J 61 b = 0) (hk : I 107 2 = -1) (nx : n < 9 → ∀ I' J' : Nat → Nat → Int32, bMod B C len I' J' → (∀ b, b < 9 → J' 61 b = 0) → I' 107 2 = -1 → jW2 (jv (d + 10) 131 45 [some (.ref 107), some (.ref 1), some (.int (nI (n + 1)))] [] (shC, I', L, pX pa pb pu pw)) (jv (e + 10) 342 89 [some (.ref 0), some (.int (nI (n + 1))), some (.int 9)] [] (shR, J', L', pR)) (bzQ len L L' pa pb pu pw I' J')) : jW2 (jv (d + 10) 131 45 [some (.ref 107), some (.ref 1), some (.int (nI n))] [] (shC, I, L, pX pa pb pu pw)) (jv (e + 10) 342 89 [some (.ref 0), some (.int (nI n)), some (.int 9)] [] (shR, J, L', pR)) (bzQ len L L' pa pb pu pw I J) := by
  rw [B131_45, if_neg (show ¬ (9 : Int32) < nI n from nI_nlt (a := 9) hn (by decide)), hk, if_pos (by decide), B342_89]
  refine jW2_go rfl rfl (cut_sim (d := d) (e := e) 9 0 rfl 0 n (fun _ => 0) I J (Nat.le_refl 0) hn hM ⟨fun b hb => absurd hb (by omega), hu, fun _ _ _ => rfl⟩) ?_
  rintro v S w T ⟨r, I', J', rfl, rfl, rfl, rfl, ⟨p1, p2, p3, p4, p5, p6⟩, pm⟩
  dsimp only [Option.toList_some, List.cons_append, List.nil_append]
  rw [B131_66, B342_96]
  rcases p6 with rfl | rfl
  · have hn9 : n < 9 := by
      rcases Nat.lt_or_ge n 9 with z | z
      · exact z
      · exact absurd (pm (by omega)) (by decide)
    rw [if_pos rfl, if_pos rfl, B131_74, nI_1]
    refine jW2_mono (nx hn9 I' J' (hM.eq (p1 2 (by decide) (by decide)) (fun c hc => p2 c (by omega) (by omega))) (fun b hb => by rw [(p4 rfl).2 b]; exact hu b hb) (by rw [p1 107 (by decide) (by decide)]; exact hk)) ?_
    rintro v S w T ⟨r, I2, J2, hr, rfl, rfl, rfl, rfl, q1, q2, q3, q4, q5, q6, q7⟩
    exact ⟨r, I2, J2, hr, rfl, rfl, rfl, rfl, fun c x y z => by rw [q1 c x y z, p1 c y z], fun f hf => by rw [q2 f hf, p1 107 (by decide) (by decide)], fun c x y z => by rw [q3 c x y z, p2 c y z], fun f hf => by rw [q4 f hf, p2 0 (by decide) (by decide)], q5, q6, q7⟩
  · rw [if_neg (by decide), if_neg (by decide), B131_74, nI_1]
    have h80 : jv (d + 10) 131 45 [some (.ref 107), some (.ref 1), some (.int (nI (n + 1)))] [] (shC, j_up I' 107 2 (nI n), L, pX pa pb pu pw) = some (none, (shC, j_up I' 107 2 (nI n), L, pX pa pb pu pw)) := by
      rw [B131_45]
      by_cases h9 : n = 9
      · rw [if_pos (show (9 : Int32) < nI (n + 1) from nI_lt (a := 9) (by omega) (by omega)), B131_80]
      · rw [if_neg (show ¬ (9 : Int32) < nI (n + 1) from nI_nlt (a := 9) (by omega) (by decide)), j_up_self, if_neg (nI_pos (by omega)), B131_80]
    rw [h80]
    refine jW2_some ⟨n, _, _, hn, rfl, rfl, rfl, rfl, fun c x y z => by rw [j_up_cell _ x, p1 c y z], fun f hf => by rw [j_up_own, if_neg hf, p1 107 (by decide) (by decide)], fun c x y z => by rw [j_up_cell _ x, p2 c y z], fun f hf => by rw [j_up_own, if_neg hf, p2 0 (by decide) (by decide)], by rw [j_up_own, if_pos rfl], by rw [j_up_own, if_pos rfl], fun j hj hlj => ?_⟩
    rw [j_up_cell _ (by decide), j_up_cell _ (by decide)]
    exact p5 rfl j (Nat.zero_le _) hj hlj
/-- one bar more, till it does -/
theorem most_sim : ∀ m n, n + m = 9 → ∀ I J : Nat → Nat → Int32, bMod B C len I J → (∀ b, b < 9 → J 61 b = 0) → I 107 2 = -1 → jW2 (jv (d + 10) 131 45 [some (.ref 107), some (.ref 1), some (.int (nI n))] [] (shC, I, L, pX pa pb pu pw)) (jv (e + 10) 342 89 [some (.ref 0), some (.int (nI n)), some (.int 9)] [] (shR, J, L', pR)) (bzQ len L L' pa pb pu pw I J) := by
  intro m
  induction m with
  | zero =>
    intro n hn I J hM hu hk
    exact most_step (by omega) hM hu hk (fun h => absurd h (by omega))
  | succ m ih =>
    intro n hn I J hM hu hk
    exact most_step (by omega) hM hu hk (fun _ I' J' hM' hu' hk' => ih (n + 1) (by omega) I' J' hM' hu' hk')
/-- bars() of both, the yard not down -/
theorem bars_sim (hM : bMod0 B C len I J) (h0 : I 0 11 = 0) (h1 : J 0 18 = 0) : jW2 (jv (d + 11) 206 0 [some (.ref 0)] [] (shC, I, L, pX pa pb pu pw)) (jv (e + 10) 342 0 [some (.ref 0), none, none] [] (shR, J, L', pR)) (fun v S w T => ∃ r I' J', v = some (.int r) ∧ w = some (.int r) ∧ S = (shC, I', L, pX pa pb pu pw) ∧ T = (shR, J', L', pR) ∧ (∀ c, c ≠ 107 → c ≠ 108 → c ≠ 109 → c ≠ 116 → I' c = I c) ∧ (∀ f, f ≠ 0 → f ≠ 2 → I' 107 f = I 107 f) ∧ (∀ f, f ≠ 10 → I' 116 f = I 116 f) ∧ (∀ c, c ≠ 0 → c ≠ 60 → c ≠ 61 → J' c = J c) ∧ (∀ f, f ≠ 103 → f ≠ 104 → J' 0 f = J 0 f) ∧ I' 107 0 = 1 ∧ I' 116 10 = 0 ∧ J' 0 103 = 1 ∧ barRel len I' J') := by
  obtain ⟨m1, m2, m3, m4, m5, m6, m7, m8⟩ := id hM
  rw [B206_0, if_pos h0, if_pos nb0, B342_0, if_pos h1, if_pos nb1]
  generalize hI1 : j_up (j_up (j_up I 116 10 0) 107 0 1) 107 2 (-1) = I1
  generalize hJ1 : j_up (j_up J 0 103 1) 0 104 (-2) = J1
  have a0 : ∀ c, c ≠ 107 → c ≠ 116 → I1 c = I c := fun c x y => by rw [← hI1, j_up_cell _ x, j_up_cell _ x, j_up_cell _ y]
  have a6 : ∀ f, I1 116 f = if f = 10 then 0 else I 116 f := fun f => by rw [← hI1, j_up_cell _ (by decide), j_up_cell _ (by decide), j_up_own]
  have a7 : ∀ f, I1 107 f = if f = 2 then -1 else if f = 0 then 1 else I 107 f := fun f => by rw [← hI1, j_up_own, j_up_own, j_up_cell _ (by decide)]
  have b0 : ∀ c, c ≠ 0 → J1 c = J c := fun c x => by rw [← hJ1, j_up_cell _ x, j_up_cell _ x]
  have b1 : ∀ f, J1 0 f = if f = 104 then -2 else if f = 103 then 1 else J 0 f := fun f => by rw [← hJ1, j_up_own, j_up_own]
  have c8 : rCst J1 := by
    obtain ⟨g1, g2, g3, g4, g5⟩ := m8
    exact ⟨fun t ht => by rw [b0 1 (by decide)]; exact g1 t ht, fun t ht => by rw [b0 2 (by decide)]; exact g2 t ht, fun t ht => by rw [b0 3 (by decide)]; exact g3 t ht, fun t ht => by rw [b0 4 (by decide)]; exact g4 t ht, fun t ht => by rw [b0 5 (by decide)]; exact g5 t ht⟩
  have c3 : ∀ k, k < 9 → len k ≤ 4000 ∧ I1 2 (879 + k) = nI (len k) ∧ J1 6 (879 + k) = nI (len k) := fun k hk => by rw [a0 2 (by decide) (by decide), b0 6 (by decide)]; exact m3 k hk
  have c4 : I1 2 2 = nI B := by rw [a0 2 (by decide) (by decide)]; exact m4
  have c5 : J1 6 2 = nI B := by rw [b0 6 (by decide)]; exact m5
  by_cases hg : ∀ k, k < 9 → len k ≤ B
  · have hg2 := chk_good (d := d + 9) (e := e + 9) (L := L) (L' := L') (pa := pa) (pb := pb) (pu := pu) (pw := pw) m1 c3 c4 c5 c8 hg none
    have e2 : jv (e + 10) 342 23 [some (.ref 0), some (.int 0), none] [] (shR, J1, L', pR) = jv (e + 10) 342 89 [some (.ref 0), some (.int 0), some (.int 9)] [] (shR, va_up J1 61 (j_fill (J1 61) (fun _ => 0) 9), L', pR) := hg2.2.trans used_0
    rw [e2]
    generalize hJ2 : va_up J1 61 (j_fill (J1 61) (fun _ => 0) 9) = J2
    have d0 : ∀ c, c ≠ 61 → J2 c = J1 c := fun c x => by rw [← hJ2, va_up_ne _ _ x]
    have d1 : ∀ b, b < 9 → J2 61 b = 0 := fun b hb => by rw [← hJ2, va_up_self]; unfold j_fill; rw [if_pos hb]
    have hMM : bMod B C len I1 J2 := hM.to hg (a0 2 (by decide) (by decide)) (fun c h0 h7 => by rw [d0 c (by omega), b0 c (by omega)])
    have key := most_sim (d := d) (e := e) (L := L) (L' := L') (pa := pa) (pb := pb) (pu := pu) (pw := pw) 9 0 rfl I1 J2 hMM d1 (by rw [a7, if_pos rfl])
    have e1 : jv (d + 10) 131 0 [some (.ref 107), some (.ref 1), none] [] (shC, j_up I 116 10 0, L, pX pa pb pu pw) = jv (d + 10) 131 45 [some (.ref 107), some (.ref 1), some (.int (nI 0))] [] (shC, I1, L, pX pa pb pu pw) := by
      rw [B131_0, if_pos nb1, hI1]
      exact hg2.1
    refine jW2_goL (Q1 := bzQ len L L' pa pb pu pw I1 J2) rfl (by show jW2 (jv (d + 10) 131 0 [some (.ref 107), some (.ref 1), none] [] (shC, j_up I 116 10 0, L, pX pa pb pu pw)) _ _; rw [e1]; exact key) ?_
    rintro v S w T ⟨r, I', J', hr, rfl, rfl, rfl, rfl, q1, q2, q3, q4, q5, q6, q7⟩
    dsimp only [Option.toList_none, List.nil_append]
    rw [B206_29, q5, if_neg (nI_pos (by omega)), B206_51]
    refine jW_some ⟨nI r, I', J', rfl, rfl, rfl, rfl, fun c x y z u => by rw [q1 c x y z, a0 c x u], fun f x y => by rw [q2 f y, a7, if_neg y, if_neg x], fun f x => by rw [q1 116 (by decide) (by decide) (by decide), a6, if_neg x], fun c x y z => by rw [q3 c x y z, d0 c z, b0 c x], fun f x y => by rw [q4 f y, d0 0 (by decide), b1, if_neg y, if_neg x], by rw [q2 0 (by decide), a7]; rfl, by rw [q1 116 (by decide) (by decide) (by decide), a6]; rfl, by rw [q4 103 (by decide), d0 0 (by decide), b1]; rfl, Or.inr ⟨r, hr, q5, q6, q7⟩⟩
  · have hbad : ∃ j, 0 ≤ j ∧ j < 9 ∧ B < len j := by
      apply Classical.byContradiction
      intro hx
      exact hg (fun k hk => Nat.le_of_not_lt (fun q => hx ⟨k, Nat.zero_le _, hk, q⟩))
    have hb2 := chk_bad (d := d + 9) (e := e + 9) (L := L) (L' := L') (pa := pa) (pb := pb) (pu := pu) (pw := pw) m1 c3 c4 c5 c8 none 9 0 rfl hbad
    have e1 : jv (d + 10) 131 0 [some (.ref 107), some (.ref 1), none] [] (shC, j_up I 116 10 0, L, pX pa pb pu pw) = some (none, (shC, I1, L, pX pa pb pu pw)) := by
      rw [B131_0, if_pos nb1, hI1]
      exact hb2.1
    rw [jgo_some (d := d + 10) rfl e1, show jv (e + 10) 342 23 [some (.ref 0), some (.int 0), none] [] (shR, J1, L', pR) = _ from hb2.2]
    dsimp only [Option.toList_none, List.nil_append]
    rw [B206_29, a7, if_pos rfl, if_pos (by decide), B206_51]
    exact jW2_some ⟨-2, I1, J1, rfl, rfl, rfl, rfl, fun c x y z u => a0 c x u, fun f x y => by rw [a7, if_neg y, if_neg x], fun f x => by rw [a6, if_neg x], fun c x y z => b0 c x, fun f x y => by rw [b1, if_neg y, if_neg x], by rw [a7]; rfl, by rw [a6]; rfl, by rw [b1]; rfl, Or.inl ⟨by rw [a7]; rfl, by rw [b1]; rfl⟩⟩
end BARZ
