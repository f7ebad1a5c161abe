/-! COMMIT: clashes, and what a person wrote laid over the model, in both -/
section COMA
variable {d e : Nat} {L L' : Nat → Nat → Int64} {pa pb pu pw : Option Nat}
theorem cpy_all (I : Nat → Nat → Int32) {q : Nat} (hq : q < 1189) : va_cpy (I 2) (I 4) (0 : Int32).toNatClampNeg (0 : Int32).toNatClampNeg (1189 : Int32).toNatClampNeg q = I 2 q := by
  have e0 : (0 : Int32).toNatClampNeg = 0 := by decide
  have e1 : (1189 : Int32).toNatClampNeg = 1189 := by decide
  unfold va_cpy
  rw [e0, e1, if_pos ⟨Nat.zero_le _, by omega⟩, Nat.zero_add, Nat.sub_zero]
/-- the model on trial is the kept one -/
theorem copy_c {I : Nat → Nat → Int32} : ∃ I', (∀ k, k ≠ 4 → I' k = I k) ∧ (∀ q, q < 1189 → I' 4 q = I 2 q) ∧ jv d 48 0 [some (.ref 3), some (.ref 1)] [] (shC, I, L, pX pa pb pu pw) = some (none, (shC, I', L, pX pa pb pu pw)) := by
  rw [B48_0_o3, if_neg (by decide)]
  exact ⟨_, fun k hk => va_up_ne _ _ hk, fun q hq => by rw [va_up_self]; exact cpy_all I hq, rfl⟩
theorem set3_c {I : Nat → Nat → Int32} {q : Nat} (hq : q < 1189) (v : Int32) : jv d 50 0 [some (.ref 3), some (.int (nI q)), some (.int v)] [] (shC, I, L, pX pa pb pu pw) = some (none, (shC, j_up I 4 q v, L, pX pa pb pu pw)) := by
  rw [B50_0_o3, if_neg (nI_pos (by omega)), if_pos (show nI q < 1189 from nI_lt (b := 1189) hq (by decide)), if_pos (j_in_nI hq (by decide)), nI_clamp (by omega), B50_18_o3]
theorem clash_0 {I J : Nat → Nat → Int32} (hI : perIn 0 8 I J) (h25 : ∀ r, r < 148 → I 25 r = J 15 r) : (∃ r, r < 148 ∧ jv d 73 0 [some (.ref 8), some (.ref 25), none] [] (shC, I, L, pX pa pb pu pw) = some (some (.int (nI r)), (shC, I, L, pX pa pb pu pw)) ∧ jv e 229 33 [some (.ref 0), some (.int (nI 0)), some (.int (nI 0))] [] (shR, J, L', pR) = jgo jTT jMM e 221 [.ref 0, .int (nI 0)] (shR, j_up (j_up J 0 21 0) 0 22 (-2), L', pR) (fun v S => jv e 229 86 [some (.ref 0), some (.int (nI 0)), some (.int (nI r))] (v.toList ++ []) S)) ∨ (jv d 73 0 [some (.ref 8), some (.ref 25), none] [] (shC, I, L, pX pa pb pu pw) = some (some (.int (-1)), (shC, I, L, pX pa pb pu pw)) ∧ jv e 229 33 [some (.ref 0), some (.int (nI 0)), some (.int (nI 0))] [] (shR, J, L', pR) = jv e 229 99 [some (.ref 0), some (.int (nI 0)), some (.int (nI 0))] [] (shR, J, L', pR)) := by
  obtain ⟨h1, -, h3⟩ := hI
  have loop : ∀ (n r : Nat), r + n = 148 → (∃ w, w < 148 ∧ jv d 73 2 [some (.ref 8), some (.ref 25), some (.int (nI r))] [] (shC, I, L, pX pa pb pu pw) = some (some (.int (nI w)), (shC, I, L, pX pa pb pu pw)) ∧ jv e 229 33 [some (.ref 0), some (.int (nI 0)), some (.int (nI r))] [] (shR, J, L', pR) = jgo jTT jMM e 221 [.ref 0, .int (nI 0)] (shR, j_up (j_up J 0 21 0) 0 22 (-2), L', pR) (fun v S => jv e 229 86 [some (.ref 0), some (.int (nI 0)), some (.int (nI w))] (v.toList ++ []) S)) ∨ (jv d 73 2 [some (.ref 8), some (.ref 25), some (.int (nI r))] [] (shC, I, L, pX pa pb pu pw) = some (some (.int (-1)), (shC, I, L, pX pa pb pu pw)) ∧ jv e 229 33 [some (.ref 0), some (.int (nI 0)), some (.int (nI r))] [] (shR, J, L', pR) = jv e 229 99 [some (.ref 0), some (.int (nI 0)), some (.int (nI 0))] [] (shR, J, L', pR)) := by
    intro n
    induction n with
    | zero =>
      intro r hr
      refine Or.inr ⟨?_, ?_⟩
      · rw [B73_2_o8, if_neg (show ¬ nI r < 148 from nI_nlt (b := 148) (by omega) (by omega)), B73_49_o8]
      · rw [B229_33, if_neg (show ¬ nI r < 148 from nI_nlt (b := 148) (by omega) (by omega))]
        rfl
    | succ n ih =>
      intro r hr
      obtain ⟨t1, t2, t3, t4⟩ := h3 r (by omega)
      have jr : j_in (nI r) 148 = true := j_in_nI (by omega) (by decide)
      have lr : nI r < 148 := nI_lt (b := 148) (by omega) (by decide)
      have er : nI 0 * 148 + nI r = nI (0 * 148 + r) := by rw [show nI 0 * 148 = nI (0 * 148) from nI_mul 0 148, nI_add]
      have jq : j_in (nI (0 * 148 + r)) 444 = true := j_in_nI (by omega) (by decide)
      have jp : j_in (nI 0) 3 = true := by decide
      rw [B73_2_o8, if_pos lr, if_pos lr, if_pos jr, if_pos jr, nI_clamp (n := r) (by omega), h1, h25 r (by omega), B229_33, if_pos lr, er, if_pos jq, nI_clamp (n := 0 * 148 + r) (by omega), t4]
      have sum : (0 < I (8 + 3) r + I (8 + 4) r) ↔ (I (8 + 3) r = 1 ∨ I (8 + 4) r = 1) := by
        rcases t3 with u | u <;> rcases t2 with v | v <;> rw [u, v] <;> decide
      by_cases q : I (8 + 3) r = 1 ∨ I (8 + 4) r = 1
      · rw [if_pos (sum.mpr q), if_pos jr, if_pos q, if_neg (show ¬ (1 : Int32) = 0 by decide), if_pos jr, if_pos jp, nI_clamp (n := r) (by omega), show (nI 0).toNatClampNeg = 0 from nI_clamp (by decide)]
        by_cases q2 : J 10 0 < J 15 r
        · rw [if_pos q2, if_pos q2]
          exact Or.inl ⟨r, by omega, rfl, rfl⟩
        · rw [if_neg q2, if_neg q2, B73_43_o8, B229_91, nI_1]
          exact ih (r + 1) (by omega)
      · rw [if_neg (fun z => q (sum.mp z)), if_neg q, if_pos rfl, B73_43_o8, B229_91, nI_1]
        exact ih (r + 1) (by omega)
  rw [B73_0_o8]
  exact loop 148 0 rfl
theorem lay_0 {I J : Nat → Nat → Int32} (hI : perIn 0 8 I J) (hk : ∀ q, q < 1189 → I 2 q = J 6 q ∧ okV q (I 2 q)) (h4 : ∀ q, q < 1189 → I 4 q = I 2 q) (hr : rCst J) : ∃ m I' J', mT m I' J' ∧ (∀ k, k ≠ 4 → I' k = I k) ∧ (∀ k, k ≠ 7 → J' k = J k) ∧ jv (d + 1) 74 0 [some (.ref 8), some (.ref 3), none] [] (shC, I, L, pX pa pb pu pw) = some (none, (shC, I', L, pX pa pb pu pw)) ∧ jv e 229 99 [some (.ref 0), some (.int (nI 0)), some (.int (nI 0))] [] (shR, J, L', pR) = jv e 229 99 [some (.ref 0), some (.int (nI 0)), some (.int (nI 1189))] [] (shR, J', L', pR) := by
  obtain ⟨-, h2, -⟩ := hI
  obtain ⟨⟨I', J'⟩, ⟨a1, a2, a3, a4⟩, k1, k2⟩ := j_run2 (α := (Nat → Nat → Int32) × (Nat → Nat → Int32)) (fun x t => jv (d + 1) 74 2 [some (.ref 8), some (.ref 3), some (.int (nI x))] [] (shC, t.1, L, pX pa pb pu pw)) (fun x t => jv e 229 99 [some (.ref 0), some (.int (nI 0)), some (.int (nI x))] [] (shR, t.2, L', pR)) (fun x t => (∀ k, k ≠ 4 → t.1 k = I k) ∧ (∀ k, k ≠ 7 → t.2 k = J k) ∧ (∀ q, q < x → t.1 4 q = (if I (8 + 2) q = 0 then I 2 q else I (8 + 1) q) ∧ t.2 7 q = (if I (8 + 2) q = 0 then I 2 q else I (8 + 1) q)) ∧ ∀ q, x ≤ q → q < 1189 → t.1 4 q = I 2 q) 1189 (fun x hx t ht => by
    obtain ⟨I1, J1⟩ := t
    obtain ⟨a1, a2, a3, a4⟩ := ht
    dsimp only at a1 a2 a3 a4 ⊢
    obtain ⟨g1, g2, g3⟩ := h2 x hx
    have jx : j_in (nI x) 1189 = true := j_in_nI hx (by decide)
    have lx : nI x < 1189 := nI_lt (b := 1189) hx (by decide)
    have er : nI 0 * 1189 + nI x = nI (0 * 1189 + x) := by rw [show nI 0 * 1189 = nI (0 * 1189) from nI_mul 0 1189, nI_add]
    have jy : j_in (nI (0 * 1189 + x)) 3567 = true := j_in_nI (by omega) (by decide)
    rw [B74_2_o8, if_pos lx, if_pos jx, nI_clamp (n := x) (by omega), a1 10 (by decide), B229_99, if_pos lx, er, if_pos jy, nI_clamp (n := 0 * 1189 + x) (by omega), a2 13 (by decide), ← g1]
    by_cases q : I (8 + 2) x = 0
    · rw [if_pos (show I 10 x = 0 from q), if_pos (show I (8 + 2) x = 0 from q), B74_29_o8, nI_1, if_pos jx, nI_clamp (n := x) (by omega), a2 6 (by decide), ← (hk x hx).1, B229_147, if_pos jx, nI_clamp (n := x) (by omega), nI_1]
      refine ⟨(I1, j_up J1 7 x (I 2 x)), ⟨a1, fun k hk' => by dsimp only; rw [j_up_cell _ hk', a2 k hk'], fun y hy => ?_, fun y hy1 hy2 => a4 y (by omega) hy2⟩, rfl, rfl⟩
      dsimp only
      rw [j_up_own]
      by_cases z : y = x
      · subst z
        rw [if_pos rfl, if_pos q]
        exact ⟨a4 y (Nat.le_refl _) hx, rfl⟩
      · rw [if_neg z]
        exact a3 y (by omega)
    · have q1 : I (8 + 2) x = 1 := g2.resolve_left q
      obtain ⟨v1, v2⟩ := g3 q1
      rw [if_neg (show ¬ I 10 x = 0 from q), if_neg (show ¬ I (8 + 2) x = 0 from q), if_pos jx, a1 9 (by decide), jgo_some rfl (set3_c hx _)]
      dsimp only [Option.toList_none, List.nil_append]
      rw [B74_29_o8, nI_1, if_pos jy, a2 14 (by decide), ← v1, B229_147, if_pos jx, nI_clamp (n := x) (by omega), nI_1]
      refine ⟨(j_up I1 4 x (I (8 + 1) x), j_up J1 7 x (I (8 + 1) x)), ⟨fun k hk' => by dsimp only; rw [j_up_cell _ hk', a1 k hk'], fun k hk' => by dsimp only; rw [j_up_cell _ hk', a2 k hk'], fun y hy => ?_, fun y hy1 hy2 => by dsimp only; rw [j_up_own, if_neg (by omega)]; exact a4 y (by omega) hy2⟩, rfl, rfl⟩
      dsimp only
      rw [j_up_own, j_up_own]
      by_cases z : y = x
      · subst z
        rw [if_pos rfl, if_pos rfl, if_neg q]
        exact ⟨rfl, rfl⟩
      · rw [if_neg z, if_neg z]
        exact a3 y (by omega)) (I, J) ⟨fun _ _ => rfl, fun _ _ => rfl, fun q hq => absurd hq (Nat.not_lt_zero _), fun q _ hq => h4 q hq⟩
  dsimp only at a1 a2 a3 a4 k1 k2
  refine ⟨fun q => if I (8 + 2) q = 0 then I 2 q else I (8 + 1) q, I', J', ⟨fun q hq => (a3 q hq).1, fun q hq => (a3 q hq).2, fun q hq => ?_, rCst_eq1 hr (fun c _ _ => a2 c (by omega))⟩, a1, a2, ?_, k2⟩
  · show okV q (if I (8 + 2) q = 0 then I 2 q else I (8 + 1) q)
    obtain ⟨g1, g2, g3⟩ := h2 q hq
    by_cases z : I (8 + 2) q = 0
    · rw [if_pos z]; exact (hk q hq).2
    · rw [if_neg z]; exact (g3 (g2.resolve_left z)).2
  · rw [B74_0_o8]
    refine (show _ = _ from k1).trans ?_
    rw [B74_2_o8, if_neg (by decide)]
theorem clash_1 {I J : Nat → Nat → Int32} (hI : perIn 1 13 I J) (h25 : ∀ r, r < 148 → I 25 r = J 15 r) : (∃ r, r < 148 ∧ jv d 73 0 [some (.ref 13), some (.ref 25), none] [] (shC, I, L, pX pa pb pu pw) = some (some (.int (nI r)), (shC, I, L, pX pa pb pu pw)) ∧ jv e 229 33 [some (.ref 0), some (.int (nI 1)), some (.int (nI 0))] [] (shR, J, L', pR) = jgo jTT jMM e 221 [.ref 0, .int (nI 1)] (shR, j_up (j_up J 0 21 0) 0 22 (-2), L', pR) (fun v S => jv e 229 86 [some (.ref 0), some (.int (nI 1)), some (.int (nI r))] (v.toList ++ []) S)) ∨ (jv d 73 0 [some (.ref 13), some (.ref 25), none] [] (shC, I, L, pX pa pb pu pw) = some (some (.int (-1)), (shC, I, L, pX pa pb pu pw)) ∧ jv e 229 33 [some (.ref 0), some (.int (nI 1)), some (.int (nI 0))] [] (shR, J, L', pR) = jv e 229 99 [some (.ref 0), some (.int (nI 1)), some (.int (nI 0))] [] (shR, J, L', pR)) := by
  obtain ⟨h1, -, h3⟩ := hI
  have loop : ∀ (n r : Nat), r + n = 148 → (∃ w, w < 148 ∧ jv d 73 2 [some (.ref 13), some (.ref 25), some (.int (nI r))] [] (shC, I, L, pX pa pb pu pw) = some (some (.int (nI w)), (shC, I, L, pX pa pb pu pw)) ∧ jv e 229 33 [some (.ref 0), some (.int (nI 1)), some (.int (nI r))] [] (shR, J, L', pR) = jgo jTT jMM e 221 [.ref 0, .int (nI 1)] (shR, j_up (j_up J 0 21 0) 0 22 (-2), L', pR) (fun v S => jv e 229 86 [some (.ref 0), some (.int (nI 1)), some (.int (nI w))] (v.toList ++ []) S)) ∨ (jv d 73 2 [some (.ref 13), some (.ref 25), some (.int (nI r))] [] (shC, I, L, pX pa pb pu pw) = some (some (.int (-1)), (shC, I, L, pX pa pb pu pw)) ∧ jv e 229 33 [some (.ref 0), some (.int (nI 1)), some (.int (nI r))] [] (shR, J, L', pR) = jv e 229 99 [some (.ref 0), some (.int (nI 1)), some (.int (nI 0))] [] (shR, J, L', pR)) := by
    intro n
    induction n with
    | zero =>
      intro r hr
      refine Or.inr ⟨?_, ?_⟩
      · rw [B73_2_o13, if_neg (show ¬ nI r < 148 from nI_nlt (b := 148) (by omega) (by omega)), B73_49_o13]
      · rw [B229_33, if_neg (show ¬ nI r < 148 from nI_nlt (b := 148) (by omega) (by omega))]
        rfl
    | succ n ih =>
      intro r hr
      obtain ⟨t1, t2, t3, t4⟩ := h3 r (by omega)
      have jr : j_in (nI r) 148 = true := j_in_nI (by omega) (by decide)
      have lr : nI r < 148 := nI_lt (b := 148) (by omega) (by decide)
      have er : nI 1 * 148 + nI r = nI (1 * 148 + r) := by rw [show nI 1 * 148 = nI (1 * 148) from nI_mul 1 148, nI_add]
      have jq : j_in (nI (1 * 148 + r)) 444 = true := j_in_nI (by omega) (by decide)
      have jp : j_in (nI 1) 3 = true := by decide
      rw [B73_2_o13, if_pos lr, if_pos lr, if_pos jr, if_pos jr, nI_clamp (n := r) (by omega), h1, h25 r (by omega), B229_33, if_pos lr, er, if_pos jq, nI_clamp (n := 1 * 148 + r) (by omega), t4]
      have sum : (0 < I (13 + 3) r + I (13 + 4) r) ↔ (I (13 + 3) r = 1 ∨ I (13 + 4) r = 1) := by
        rcases t3 with u | u <;> rcases t2 with v | v <;> rw [u, v] <;> decide
      by_cases q : I (13 + 3) r = 1 ∨ I (13 + 4) r = 1
      · rw [if_pos (sum.mpr q), if_pos jr, if_pos q, if_neg (show ¬ (1 : Int32) = 0 by decide), if_pos jr, if_pos jp, nI_clamp (n := r) (by omega), show (nI 1).toNatClampNeg = 1 from nI_clamp (by decide)]
        by_cases q2 : J 10 1 < J 15 r
        · rw [if_pos q2, if_pos q2]
          exact Or.inl ⟨r, by omega, rfl, rfl⟩
        · rw [if_neg q2, if_neg q2, B73_43_o13, B229_91, nI_1]
          exact ih (r + 1) (by omega)
      · rw [if_neg (fun z => q (sum.mp z)), if_neg q, if_pos rfl, B73_43_o13, B229_91, nI_1]
        exact ih (r + 1) (by omega)
  rw [B73_0_o13]
  exact loop 148 0 rfl
theorem lay_1 {I J : Nat → Nat → Int32} (hI : perIn 1 13 I J) (hk : ∀ q, q < 1189 → I 2 q = J 6 q ∧ okV q (I 2 q)) (h4 : ∀ q, q < 1189 → I 4 q = I 2 q) (hr : rCst J) : ∃ m I' J', mT m I' J' ∧ (∀ k, k ≠ 4 → I' k = I k) ∧ (∀ k, k ≠ 7 → J' k = J k) ∧ jv (d + 1) 74 0 [some (.ref 13), some (.ref 3), none] [] (shC, I, L, pX pa pb pu pw) = some (none, (shC, I', L, pX pa pb pu pw)) ∧ jv e 229 99 [some (.ref 0), some (.int (nI 1)), some (.int (nI 0))] [] (shR, J, L', pR) = jv e 229 99 [some (.ref 0), some (.int (nI 1)), some (.int (nI 1189))] [] (shR, J', L', pR) := by
  obtain ⟨-, h2, -⟩ := hI
  obtain ⟨⟨I', J'⟩, ⟨a1, a2, a3, a4⟩, k1, k2⟩ := j_run2 (α := (Nat → Nat → Int32) × (Nat → Nat → Int32)) (fun x t => jv (d + 1) 74 2 [some (.ref 13), some (.ref 3), some (.int (nI x))] [] (shC, t.1, L, pX pa pb pu pw)) (fun x t => jv e 229 99 [some (.ref 0), some (.int (nI 1)), some (.int (nI x))] [] (shR, t.2, L', pR)) (fun x t => (∀ k, k ≠ 4 → t.1 k = I k) ∧ (∀ k, k ≠ 7 → t.2 k = J k) ∧ (∀ q, q < x → t.1 4 q = (if I (13 + 2) q = 0 then I 2 q else I (13 + 1) q) ∧ t.2 7 q = (if I (13 + 2) q = 0 then I 2 q else I (13 + 1) q)) ∧ ∀ q, x ≤ q → q < 1189 → t.1 4 q = I 2 q) 1189 (fun x hx t ht => by
    obtain ⟨I1, J1⟩ := t
    obtain ⟨a1, a2, a3, a4⟩ := ht
    dsimp only at a1 a2 a3 a4 ⊢
    obtain ⟨g1, g2, g3⟩ := h2 x hx
    have jx : j_in (nI x) 1189 = true := j_in_nI hx (by decide)
    have lx : nI x < 1189 := nI_lt (b := 1189) hx (by decide)
    have er : nI 1 * 1189 + nI x = nI (1 * 1189 + x) := by rw [show nI 1 * 1189 = nI (1 * 1189) from nI_mul 1 1189, nI_add]
    have jy : j_in (nI (1 * 1189 + x)) 3567 = true := j_in_nI (by omega) (by decide)
    rw [B74_2_o13, if_pos lx, if_pos jx, nI_clamp (n := x) (by omega), a1 15 (by decide), B229_99, if_pos lx, er, if_pos jy, nI_clamp (n := 1 * 1189 + x) (by omega), a2 13 (by decide), ← g1]
    by_cases q : I (13 + 2) x = 0
    · rw [if_pos (show I 15 x = 0 from q), if_pos (show I (13 + 2) x = 0 from q), B74_29_o13, nI_1, if_pos jx, nI_clamp (n := x) (by omega), a2 6 (by decide), ← (hk x hx).1, B229_147, if_pos jx, nI_clamp (n := x) (by omega), nI_1]
      refine ⟨(I1, j_up J1 7 x (I 2 x)), ⟨a1, fun k hk' => by dsimp only; rw [j_up_cell _ hk', a2 k hk'], fun y hy => ?_, fun y hy1 hy2 => a4 y (by omega) hy2⟩, rfl, rfl⟩
      dsimp only
      rw [j_up_own]
      by_cases z : y = x
      · subst z
        rw [if_pos rfl, if_pos q]
        exact ⟨a4 y (Nat.le_refl _) hx, rfl⟩
      · rw [if_neg z]
        exact a3 y (by omega)
    · have q1 : I (13 + 2) x = 1 := g2.resolve_left q
      obtain ⟨v1, v2⟩ := g3 q1
      rw [if_neg (show ¬ I 15 x = 0 from q), if_neg (show ¬ I (13 + 2) x = 0 from q), if_pos jx, a1 14 (by decide), jgo_some rfl (set3_c hx _)]
      dsimp only [Option.toList_none, List.nil_append]
      rw [B74_29_o13, nI_1, if_pos jy, a2 14 (by decide), ← v1, B229_147, if_pos jx, nI_clamp (n := x) (by omega), nI_1]
      refine ⟨(j_up I1 4 x (I (13 + 1) x), j_up J1 7 x (I (13 + 1) x)), ⟨fun k hk' => by dsimp only; rw [j_up_cell _ hk', a1 k hk'], fun k hk' => by dsimp only; rw [j_up_cell _ hk', a2 k hk'], fun y hy => ?_, fun y hy1 hy2 => by dsimp only; rw [j_up_own, if_neg (by omega)]; exact a4 y (by omega) hy2⟩, rfl, rfl⟩
      dsimp only
      rw [j_up_own, j_up_own]
      by_cases z : y = x
      · subst z
        rw [if_pos rfl, if_pos rfl, if_neg q]
        exact ⟨rfl, rfl⟩
      · rw [if_neg z, if_neg z]
        exact a3 y (by omega)) (I, J) ⟨fun _ _ => rfl, fun _ _ => rfl, fun q hq => absurd hq (Nat.not_lt_zero _), fun q _ hq => h4 q hq⟩
  dsimp only at a1 a2 a3 a4 k1 k2
  refine ⟨fun q => if I (13 + 2) q = 0 then I 2 q else I (13 + 1) q, I', J', ⟨fun q hq => (a3 q hq).1, fun q hq => (a3 q hq).2, fun q hq => ?_, rCst_eq1 hr (fun c _ _ => a2 c (by omega))⟩, a1, a2, ?_, k2⟩
  · show okV q (if I (13 + 2) q = 0 then I 2 q else I (13 + 1) q)
    obtain ⟨g1, g2, g3⟩ := h2 q hq
    by_cases z : I (13 + 2) q = 0
    · rw [if_pos z]; exact (hk q hq).2
    · rw [if_neg z]; exact (g3 (g2.resolve_left z)).2
  · rw [B74_0_o13]
    refine (show _ = _ from k1).trans ?_
    rw [B74_2_o13, if_neg (by decide)]
theorem clash_2 {I J : Nat → Nat → Int32} (hI : perIn 2 18 I J) (h25 : ∀ r, r < 148 → I 25 r = J 15 r) : (∃ r, r < 148 ∧ jv d 73 0 [some (.ref 18), some (.ref 25), none] [] (shC, I, L, pX pa pb pu pw) = some (some (.int (nI r)), (shC, I, L, pX pa pb pu pw)) ∧ jv e 229 33 [some (.ref 0), some (.int (nI 2)), some (.int (nI 0))] [] (shR, J, L', pR) = jgo jTT jMM e 221 [.ref 0, .int (nI 2)] (shR, j_up (j_up J 0 21 0) 0 22 (-2), L', pR) (fun v S => jv e 229 86 [some (.ref 0), some (.int (nI 2)), some (.int (nI r))] (v.toList ++ []) S)) ∨ (jv d 73 0 [some (.ref 18), some (.ref 25), none] [] (shC, I, L, pX pa pb pu pw) = some (some (.int (-1)), (shC, I, L, pX pa pb pu pw)) ∧ jv e 229 33 [some (.ref 0), some (.int (nI 2)), some (.int (nI 0))] [] (shR, J, L', pR) = jv e 229 99 [some (.ref 0), some (.int (nI 2)), some (.int (nI 0))] [] (shR, J, L', pR)) := by
  obtain ⟨h1, -, h3⟩ := hI
  have loop : ∀ (n r : Nat), r + n = 148 → (∃ w, w < 148 ∧ jv d 73 2 [some (.ref 18), some (.ref 25), some (.int (nI r))] [] (shC, I, L, pX pa pb pu pw) = some (some (.int (nI w)), (shC, I, L, pX pa pb pu pw)) ∧ jv e 229 33 [some (.ref 0), some (.int (nI 2)), some (.int (nI r))] [] (shR, J, L', pR) = jgo jTT jMM e 221 [.ref 0, .int (nI 2)] (shR, j_up (j_up J 0 21 0) 0 22 (-2), L', pR) (fun v S => jv e 229 86 [some (.ref 0), some (.int (nI 2)), some (.int (nI w))] (v.toList ++ []) S)) ∨ (jv d 73 2 [some (.ref 18), some (.ref 25), some (.int (nI r))] [] (shC, I, L, pX pa pb pu pw) = some (some (.int (-1)), (shC, I, L, pX pa pb pu pw)) ∧ jv e 229 33 [some (.ref 0), some (.int (nI 2)), some (.int (nI r))] [] (shR, J, L', pR) = jv e 229 99 [some (.ref 0), some (.int (nI 2)), some (.int (nI 0))] [] (shR, J, L', pR)) := by
    intro n
    induction n with
    | zero =>
      intro r hr
      refine Or.inr ⟨?_, ?_⟩
      · rw [B73_2_o18, if_neg (show ¬ nI r < 148 from nI_nlt (b := 148) (by omega) (by omega)), B73_49_o18]
      · rw [B229_33, if_neg (show ¬ nI r < 148 from nI_nlt (b := 148) (by omega) (by omega))]
        rfl
    | succ n ih =>
      intro r hr
      obtain ⟨t1, t2, t3, t4⟩ := h3 r (by omega)
      have jr : j_in (nI r) 148 = true := j_in_nI (by omega) (by decide)
      have lr : nI r < 148 := nI_lt (b := 148) (by omega) (by decide)
      have er : nI 2 * 148 + nI r = nI (2 * 148 + r) := by rw [show nI 2 * 148 = nI (2 * 148) from nI_mul 2 148, nI_add]
      have jq : j_in (nI (2 * 148 + r)) 444 = true := j_in_nI (by omega) (by decide)
      have jp : j_in (nI 2) 3 = true := by decide
      rw [B73_2_o18, if_pos lr, if_pos lr, if_pos jr, if_pos jr, nI_clamp (n := r) (by omega), h1, h25 r (by omega), B229_33, if_pos lr, er, if_pos jq, nI_clamp (n := 2 * 148 + r) (by omega), t4]
      have sum : (0 < I (18 + 3) r + I (18 + 4) r) ↔ (I (18 + 3) r = 1 ∨ I (18 + 4) r = 1) := by
        rcases t3 with u | u <;> rcases t2 with v | v <;> rw [u, v] <;> decide
      by_cases q : I (18 + 3) r = 1 ∨ I (18 + 4) r = 1
      · rw [if_pos (sum.mpr q), if_pos jr, if_pos q, if_neg (show ¬ (1 : Int32) = 0 by decide), if_pos jr, if_pos jp, nI_clamp (n := r) (by omega), show (nI 2).toNatClampNeg = 2 from nI_clamp (by decide)]
        by_cases q2 : J 10 2 < J 15 r
        · rw [if_pos q2, if_pos q2]
          exact Or.inl ⟨r, by omega, rfl, rfl⟩
        · rw [if_neg q2, if_neg q2, B73_43_o18, B229_91, nI_1]
          exact ih (r + 1) (by omega)
      · rw [if_neg (fun z => q (sum.mp z)), if_neg q, if_pos rfl, B73_43_o18, B229_91, nI_1]
        exact ih (r + 1) (by omega)
  rw [B73_0_o18]
  exact loop 148 0 rfl
theorem lay_2 {I J : Nat → Nat → Int32} (hI : perIn 2 18 I J) (hk : ∀ q, q < 1189 → I 2 q = J 6 q ∧ okV q (I 2 q)) (h4 : ∀ q, q < 1189 → I 4 q = I 2 q) (hr : rCst J) : ∃ m I' J', mT m I' J' ∧ (∀ k, k ≠ 4 → I' k = I k) ∧ (∀ k, k ≠ 7 → J' k = J k) ∧ jv (d + 1) 74 0 [some (.ref 18), some (.ref 3), none] [] (shC, I, L, pX pa pb pu pw) = some (none, (shC, I', L, pX pa pb pu pw)) ∧ jv e 229 99 [some (.ref 0), some (.int (nI 2)), some (.int (nI 0))] [] (shR, J, L', pR) = jv e 229 99 [some (.ref 0), some (.int (nI 2)), some (.int (nI 1189))] [] (shR, J', L', pR) := by
  obtain ⟨-, h2, -⟩ := hI
  obtain ⟨⟨I', J'⟩, ⟨a1, a2, a3, a4⟩, k1, k2⟩ := j_run2 (α := (Nat → Nat → Int32) × (Nat → Nat → Int32)) (fun x t => jv (d + 1) 74 2 [some (.ref 18), some (.ref 3), some (.int (nI x))] [] (shC, t.1, L, pX pa pb pu pw)) (fun x t => jv e 229 99 [some (.ref 0), some (.int (nI 2)), some (.int (nI x))] [] (shR, t.2, L', pR)) (fun x t => (∀ k, k ≠ 4 → t.1 k = I k) ∧ (∀ k, k ≠ 7 → t.2 k = J k) ∧ (∀ q, q < x → t.1 4 q = (if I (18 + 2) q = 0 then I 2 q else I (18 + 1) q) ∧ t.2 7 q = (if I (18 + 2) q = 0 then I 2 q else I (18 + 1) q)) ∧ ∀ q, x ≤ q → q < 1189 → t.1 4 q = I 2 q) 1189 (fun x hx t ht => by
    obtain ⟨I1, J1⟩ := t
    obtain ⟨a1, a2, a3, a4⟩ := ht
    dsimp only at a1 a2 a3 a4 ⊢
    obtain ⟨g1, g2, g3⟩ := h2 x hx
    have jx : j_in (nI x) 1189 = true := j_in_nI hx (by decide)
    have lx : nI x < 1189 := nI_lt (b := 1189) hx (by decide)
    have er : nI 2 * 1189 + nI x = nI (2 * 1189 + x) := by rw [show nI 2 * 1189 = nI (2 * 1189) from nI_mul 2 1189, nI_add]
    have jy : j_in (nI (2 * 1189 + x)) 3567 = true := j_in_nI (by omega) (by decide)
    rw [B74_2_o18, if_pos lx, if_pos jx, nI_clamp (n := x) (by omega), a1 20 (by decide), B229_99, if_pos lx, er, if_pos jy, nI_clamp (n := 2 * 1189 + x) (by omega), a2 13 (by decide), ← g1]
    by_cases q : I (18 + 2) x = 0
    · rw [if_pos (show I 20 x = 0 from q), if_pos (show I (18 + 2) x = 0 from q), B74_29_o18, nI_1, if_pos jx, nI_clamp (n := x) (by omega), a2 6 (by decide), ← (hk x hx).1, B229_147, if_pos jx, nI_clamp (n := x) (by omega), nI_1]
      refine ⟨(I1, j_up J1 7 x (I 2 x)), ⟨a1, fun k hk' => by dsimp only; rw [j_up_cell _ hk', a2 k hk'], fun y hy => ?_, fun y hy1 hy2 => a4 y (by omega) hy2⟩, rfl, rfl⟩
      dsimp only
      rw [j_up_own]
      by_cases z : y = x
      · subst z
        rw [if_pos rfl, if_pos q]
        exact ⟨a4 y (Nat.le_refl _) hx, rfl⟩
      · rw [if_neg z]
        exact a3 y (by omega)
    · have q1 : I (18 + 2) x = 1 := g2.resolve_left q
      obtain ⟨v1, v2⟩ := g3 q1
      rw [if_neg (show ¬ I 20 x = 0 from q), if_neg (show ¬ I (18 + 2) x = 0 from q), if_pos jx, a1 19 (by decide), jgo_some rfl (set3_c hx _)]
      dsimp only [Option.toList_none, List.nil_append]
      rw [B74_29_o18, nI_1, if_pos jy, a2 14 (by decide), ← v1, B229_147, if_pos jx, nI_clamp (n := x) (by omega), nI_1]
      refine ⟨(j_up I1 4 x (I (18 + 1) x), j_up J1 7 x (I (18 + 1) x)), ⟨fun k hk' => by dsimp only; rw [j_up_cell _ hk', a1 k hk'], fun k hk' => by dsimp only; rw [j_up_cell _ hk', a2 k hk'], fun y hy => ?_, fun y hy1 hy2 => by dsimp only; rw [j_up_own, if_neg (by omega)]; exact a4 y (by omega) hy2⟩, rfl, rfl⟩
      dsimp only
      rw [j_up_own, j_up_own]
      by_cases z : y = x
      · subst z
        rw [if_pos rfl, if_pos rfl, if_neg q]
        exact ⟨rfl, rfl⟩
      · rw [if_neg z, if_neg z]
        exact a3 y (by omega)) (I, J) ⟨fun _ _ => rfl, fun _ _ => rfl, fun q hq => absurd hq (Nat.not_lt_zero _), fun q _ hq => h4 q hq⟩
  dsimp only at a1 a2 a3 a4 k1 k2
  refine ⟨fun q => if I (18 + 2) q = 0 then I 2 q else I (18 + 1) q, I', J', ⟨fun q hq => (a3 q hq).1, fun q hq => (a3 q hq).2, fun q hq => ?_, rCst_eq1 hr (fun c _ _ => a2 c (by omega))⟩, a1, a2, ?_, k2⟩
  · show okV q (if I (18 + 2) q = 0 then I 2 q else I (18 + 1) q)
    obtain ⟨g1, g2, g3⟩ := h2 q hq
    by_cases z : I (18 + 2) q = 0
    · rw [if_pos z]; exact (hk q hq).2
    · rw [if_neg z]; exact (g3 (g2.resolve_left z)).2
  · rw [B74_0_o18]
    refine (show _ = _ from k1).trans ?_
    rw [B74_2_o18, if_neg (by decide)]
end COMA
