/-! UNDO: the changes taken back on trial, in both -/
section UNDB
variable {d e : Nat} {L L' : Nat → Nat → Int64} {pa pb pu pw : Option Nat}
/-- g' is g with the values v at the record's places below the i-th -/
def pyV (a b v : Nat → Int32) (i : Nat) (g g' : Nat → Int32) : Prop := ∀ q, q < 1189 → (a q ≠ b q ∧ chN a b q < i → g' q = v q) ∧ (¬ (a q ≠ b q ∧ chN a b q < i) → g' q = g q)
theorem pyV_zero (a b v g : Nat → Int32) : pyV a b v 0 g g := fun q _ => ⟨fun z => absurd z.2 (Nat.not_lt_zero _), fun _ => rfl⟩
theorem pyV_step {a b v g g' : Nat → Int32} {i y : Nat} (h : pyV a b v i g g') (y2 : a y ≠ b y) (y3 : chN a b y = i) : pyV a b v (i + 1) g (va_up g' y (v y)) := by
  intro q hq
  have e : va_up g' y (v y) q = if q = y then v y else g' q := rfl
  rw [e]
  by_cases w : q = y
  · subst w
    rw [if_pos rfl]
    exact ⟨fun _ => rfl, fun z => absurd ⟨y2, by omega⟩ z⟩
  · rw [if_neg w]
    have iff_ : (a q ≠ b q ∧ chN a b q < i + 1) ↔ (a q ≠ b q ∧ chN a b q < i) := by
      constructor
      · rintro ⟨z1, z2⟩
        refine ⟨z1, ?_⟩
        by_cases u0 : chN a b q = i
        · exfalso
          rcases Nat.lt_trichotomy q y with u | u | u
          · have := chN_lt u z1; omega
          · exact w u
          · have := chN_lt u y2; omega
        · omega
      · rintro ⟨z1, z2⟩
        exact ⟨z1, by omega⟩
    rw [iff_]
    exact h q hq
theorem at5_c {I : Nat → Nat → Int32} {x : Nat} (hx : x < 1189) : jv d 49 0 [some (.ref 5), some (.int (nI x))] [] (shC, I, L, pX pa pb pu pw) = some (some (.int (I 6 x)), (shC, I, L, pX pa pb pu pw)) := by
  rw [B49_0_o5, if_neg (nI_pos (by omega)), if_pos (show nI x < 1189 from nI_lt (b := 1189) hx (by decide)), if_pos (j_in_nI hx (by decide)), nI_clamp (by omega), B49_21_o5]
section LOOPS
variable {I J : Nat → Nat → Int32} {F a b : Nat → Int32} {z s k : Nat}
/-- one change, class -/
theorem ub_c (hl : lgR z F I J) (hw : rcW F s (chN a b 1189) z) (hp : recP F s a b 1189) (hz : z ≤ 40000) (l1 : Int32) {i y : Nat} (hi : i < chN a b 1189) (y1 : y < 1189) (y2 : a y ≠ b y) (y3 : chN a b y = i) (o5 o6 : Option Value) : jv (d + 5) 178 100 [some (.ref 0), some (.int l1), some (.int (nI s)), some (.int (nI (chN a b 1189))), some (.int (nI i)), o5, o6] [] (shC, I, L, pX pa pb pu pw) = if l1 < I 25 (rowN.getD y 0) then some (some (.int ((-100) - nI (rowN.getD y 0))), (shC, I, L, pX pa pb pu pw)) else jv (d + 5) 178 100 [some (.ref 0), some (.int l1), some (.int (nI s)), some (.int (nI (chN a b 1189))), some (.int (nI (i + 1))), some (.int (nI y)), some (.int (nI (rowN.getD y 0)))] [] (shC, j_up I 4 y (I 6 y), L, pX pa pb pu pw) := by
  have hn := chN_le a b 1189
  have rl := rowN_lt y y1
  have pl := (hp y y1 y2).1
  rw [y3] at pl
  rw [B178_100, if_pos (nI_lt hi (by omega)), jgo_some rfl (plc_c (d := d + 2) hl hw hi), pl]
  dsimp only [Option.toList_some, List.cons_append, List.nil_append]
  rw [B178_116, jgo_some rfl (rowOf_c y1)]
  dsimp only [Option.toList_some, List.cons_append, List.nil_append]
  rw [B178_123, if_pos (j_in_nI rl (by decide)), nI_clamp (n := rowN.getD y 0) (by omega)]
  by_cases q : l1 < I 25 (rowN.getD y 0)
  · rw [if_pos q, if_pos q]
  · rw [if_neg q, if_neg q, jgo_some rfl (at5_c y1)]
    dsimp only [Option.toList_some, List.cons_append, List.nil_append]
    rw [B178_157, jgo_some rfl (set3_c y1 _)]
    dsimp only [Option.toList_none, List.nil_append]
    rw [B178_160, nI_1]
/-- the earliest row, reference -/
theorem ue_r (hl : lgR z F I J) (hw : rcW F s (chN a b 1189) z) (hp : recP F s a b 1189) (hz : z ≤ 40000) (hr : rCst J) (l1 : Int32) {i y ea : Nat} (hi : i < chN a b 1189) (y1 : y < 1189) (y2 : a y ≠ b y) (y3 : chN a b y = i) (hea : ea ≤ 148) (o6 : Option Value) : ∃ q6, jv (e + 2) 234 75 [some (.ref 0), some (.int l1), some (.int (nI s)), some (.int (nI (chN a b 1189))), some (.int (nI ea)), some (.int (nI i)), o6] [] (shR, J, L', pR) = jv (e + 2) 234 75 [some (.ref 0), some (.int l1), some (.int (nI s)), some (.int (nI (chN a b 1189))), some (.int (nI (if l1 < J 15 (rowN.getD y 0) ∧ rowN.getD y 0 < ea then rowN.getD y 0 else ea))), some (.int (nI (i + 1))), q6] [] (shR, J, L', pR) := by
  have hn := chN_le a b 1189
  have rl := rowN_lt y y1
  obtain ⟨w1, w2, w3⟩ := hw
  have n2 := num_r (e := e + 1) (L' := L') (a := s + 4 + 6 * i) (k := 2) hl (by omega)
  have pl := (hp y y1 y2).1
  rw [y3] at pl
  rw [pl] at n2
  have j5 : J 5 y = nI (rowN.getD y 0) := hr.2.2.2.2 y y1
  have e1 : nI s + 4 + 6 * nI i = nI (s + 4 + 6 * i) := by rw [show nI s + 4 = nI (s + 4) from nI_add s 4, show 6 * nI i = nI (6 * i) from nI_mul 6 i, nI_add]
  rw [B234_75, if_pos (nI_lt hi (by omega)), e1, show (2 : Int32) = nI 2 from rfl, jgo_some rfl n2]
  dsimp only [Option.toList_some, List.cons_append, List.nil_append]
  rw [B234_99, if_pos (j_in_nI y1 (by decide)), nI_clamp (n := y) (by omega), j5, if_pos (j_in_nI rl (by decide)), nI_clamp (n := rowN.getD y 0) (by omega)]
  refine ⟨some (.int (nI (rowN.getD y 0))), ?_⟩
  by_cases q : l1 < J 15 (rowN.getD y 0)
  · rw [if_pos q]
    by_cases q2 : rowN.getD y 0 < ea
    · rw [if_pos (nI_lt q2 (by omega)), if_pos ⟨q, q2⟩, B234_127, nI_1]
    · rw [if_neg (nI_nlt (by omega) (by omega)), if_neg (fun w => q2 w.2), B234_125, B234_127, nI_1]
  · rw [if_neg q, if_neg (fun w => q w.1), B234_125, B234_127, nI_1]
/-- a clash: the class stops at its first, the reference has the least -/
theorem und_clash (hl : lgR z F I J) (hw : rcW F s (chN a b 1189) z) (hp : recP F s a b 1189) (hr : rCst J) (h25 : ∀ r, r < 148 → I 25 r = J 15 r) (l1 : Int32) {y0 : Nat} (y1 : y0 < 1189) (y2 : a y0 ≠ b y0) (y4 : l1 < I 25 (rowN.getD y0 0)) (y5 : ∀ y, y < y0 → ¬ (a y ≠ b y ∧ l1 < I 25 (rowN.getD y 0))) (o5 o6 : Option Value) : ∃ I', (∀ c, c ≠ 4 → I' c = I c) ∧ jv (d + 5) 178 100 [some (.ref 0), some (.int l1), some (.int (nI s)), some (.int (nI (chN a b 1189))), some (.int (nI 0)), o5, o6] [] (shC, I, L, pX pa pb pu pw) = some (some (.int ((-100) - nI (rowN.getD y0 0))), (shC, I', L, pX pa pb pu pw)) ∧ jv (e + 2) 234 75 [some (.ref 0), some (.int l1), some (.int (nI s)), some (.int (nI (chN a b 1189))), some (.int (nI 148)), some (.int (nI 0)), o6] [] (shR, J, L', pR) = some (some (.int ((-100) - nI (rowN.getD y0 0))), (shR, j_up (j_up J 0 21 0) 0 22 (-2), L', pR)) := by
  have hn := chN_le a b 1189
  have hz := hl.1
  have r0 := rowN_lt y0 y1
  have c0 : chN a b y0 < chN a b 1189 := chN_lt y1 y2
  have lt_of : ∀ {y : Nat}, a y ≠ b y → chN a b y < chN a b y0 → y < y0 := by
    intro y _ h
    by_cases q : y < y0
    · exact q
    · have := chN_mono (a := a) (b := b) (show y0 ≤ y by omega)
      omega
  obtain ⟨⟨I1, p5, p6⟩, a1, a2⟩ := j_runP (α := (Nat → Nat → Int32) × Option Value × Option Value) (fun i t => jv (d + 5) 178 100 [some (.ref 0), some (.int l1), some (.int (nI s)), some (.int (nI (chN a b 1189))), some (.int (nI i)), t.2.1, t.2.2] [] (shC, t.1, L, pX pa pb pu pw)) (fun i t => ∀ c, c ≠ 4 → t.1 c = I c) (chN a b y0) (fun i hi t ht => by
    obtain ⟨I1, p5, p6⟩ := t
    dsimp only at ht ⊢
    have hl1 : lgR z F I1 J := ⟨hl.1, by rw [ht 23 (by decide)]; exact hl.2.1, hl.2.2.1, fun j hj => by rw [ht 24 (by decide)]; exact hl.2.2.2 j hj⟩
    obtain ⟨y, v1, v2, v3⟩ := chN_ex (show i < chN a b 1189 by omega)
    have hy := lt_of v2 (by omega)
    rw [ub_c hl1 hw hp hz l1 (by omega) v1 v2 v3, ht 25 (by decide), if_neg (fun w => y5 y hy ⟨v2, w⟩)]
    exact ⟨(j_up I1 4 y (I1 6 y), _, _), fun c hc => by dsimp only; rw [j_up_cell _ hc, ht c hc], rfl⟩) (I, o5, o6) (fun _ _ => rfl)
  dsimp only at a1 a2
  have hl1 : lgR z F I1 J := ⟨hl.1, by rw [a1 23 (by decide)]; exact hl.2.1, hl.2.2.1, fun j hj => by rw [a1 24 (by decide)]; exact hl.2.2.2 j hj⟩
  refine ⟨I1, a1, (show _ = _ from a2).trans ?_, ?_⟩
  · rw [ub_c hl1 hw hp hz l1 c0 y1 y2 rfl, a1 25 (by decide), if_pos y4]
  · obtain ⟨q6, b1, b2⟩ := j_runP (α := Option Value) (fun i o => jv (e + 2) 234 75 [some (.ref 0), some (.int l1), some (.int (nI s)), some (.int (nI (chN a b 1189))), some (.int (nI (if i ≤ chN a b y0 then 148 else rowN.getD y0 0))), some (.int (nI i)), o] [] (shR, J, L', pR)) (fun _ _ => True) (chN a b 1189) (fun i hi o _ => by
      try dsimp only
      obtain ⟨y, v1, v2, v3⟩ := chN_ex hi
      obtain ⟨q, hq⟩ := ue_r (e := e) (L' := L') hl hw hp hz hr l1 hi v1 v2 v3 (ea := if i ≤ chN a b y0 then 148 else rowN.getD y0 0) (by split <;> omega) o
      refine ⟨q, trivial, hq.trans ?_⟩
      have key : (if l1 < J 15 (rowN.getD y 0) ∧ rowN.getD y 0 < (if i ≤ chN a b y0 then 148 else rowN.getD y0 0) then rowN.getD y 0 else (if i ≤ chN a b y0 then 148 else rowN.getD y0 0)) = if i + 1 ≤ chN a b y0 then 148 else rowN.getD y0 0 := by
        have ry := rowN_lt y v1
        rw [← h25 _ ry]
        rcases Nat.lt_trichotomy i (chN a b y0) with w | w | w
        · have hy := lt_of v2 (by omega)
          rw [if_pos (show i ≤ chN a b y0 by omega), if_neg (fun u => y5 y hy ⟨v2, u.1⟩), if_pos (by omega)]
        · have ey : y = y0 := by
            rcases Nat.lt_trichotomy y y0 with u | u | u
            · have := chN_lt u v2; omega
            · exact u
            · have := chN_lt u y2; omega
          rw [ey, if_pos (show i ≤ chN a b y0 by omega), if_pos ⟨y4, r0⟩, if_neg (by omega)]
        · have hy : y0 ≤ y := by
            by_cases u : y < y0
            · have := chN_lt u v2; omega
            · omega
          have mo := rowN_mono hy v1
          rw [if_neg (show ¬ i ≤ chN a b y0 by omega), if_neg (fun u => by have := u.2; omega), if_neg (by omega)]
      rw [key]) o6 trivial
    refine (show _ = _ from b2).trans ?_
    rw [B234_75, if_neg (nI_nlt (Nat.le_refl _) (by omega)), if_neg (show ¬ chN a b 1189 ≤ chN a b y0 by omega), if_pos (show nI (rowN.getD y0 0) < 148 from nI_lt (b := 148) r0 (by decide))]
/-- no clash: both come to their judgement of the model on trial -/
theorem und_free {g : Nat → Int32} (hl : lgR z F I J) (hw : rcW F s (chN a b 1189) z) (hp : recP F s a b 1189) (hr : rCst J) (h25 : ∀ r, r < 148 → I 25 r = J 15 r) (h4 : ∀ q, q < 1189 → I 4 q = g q) (h6 : ∀ q, q < 1189 → J 6 q = g q) (hI6 : ∀ q, q < 1189 → I 6 q = a q) (hJ8 : ∀ q, q < 1189 → J 8 q = a q) (og : ∀ q, q < 1189 → okV q (g q)) (oa : ∀ q, q < 1189 → okV q (a q)) (l1 : Int32) (y5 : ∀ y, y < 1189 → ¬ (a y ≠ b y ∧ l1 < I 25 (rowN.getD y 0))) (o5 o6 : Option Value) : ∃ m I' J' p5 p6 q6, mT m I' J' ∧ (∀ c, c ≠ 4 → I' c = I c) ∧ (∀ c, c ≠ 7 → J' c = J c) ∧ jv (d + 5) 178 100 [some (.ref 0), some (.int l1), some (.int (nI s)), some (.int (nI (chN a b 1189))), some (.int (nI 0)), o5, o6] [] (shC, I, L, pX pa pb pu pw) = jgo jTT jMM (d + 5) 185 [.ref 0] (shC, I', L, pX pa pb pu pw) (fun v S => jv (d + 5) 178 170 [some (.ref 0), some (.int l1), some (.int (nI s)), some (.int (nI (chN a b 1189))), some (.int (nI (chN a b 1189))), p5, p6] (v.toList ++ []) S) ∧ jv (e + 2) 234 75 [some (.ref 0), some (.int l1), some (.int (nI s)), some (.int (nI (chN a b 1189))), some (.int (nI 148)), some (.int (nI 0)), o6] [] (shR, J, L', pR) = jgo jTT jMM (e + 2) 230 [.ref 0] (shR, J', L', pR) (fun v S => jv (e + 2) 234 240 [some (.ref 0), some (.int l1), some (.int (nI s)), some (.int (nI (chN a b 1189))), some (.int (nI 148)), some (.int (nI (chN a b 1189))), q6] (v.toList ++ []) S) := by
  have hn := chN_le a b 1189
  have hz := hl.1
  obtain ⟨⟨I1, p5, p6⟩, ⟨a1, a2⟩, a3⟩ := j_runP (α := (Nat → Nat → Int32) × Option Value × Option Value) (fun i t => jv (d + 5) 178 100 [some (.ref 0), some (.int l1), some (.int (nI s)), some (.int (nI (chN a b 1189))), some (.int (nI i)), t.2.1, t.2.2] [] (shC, t.1, L, pX pa pb pu pw)) (fun i t => (∀ c, c ≠ 4 → t.1 c = I c) ∧ pyV a b a i (I 4) (t.1 4)) (chN a b 1189) (fun i hi t ht => by
    obtain ⟨I1, p5, p6⟩ := t
    obtain ⟨b1, b2⟩ := ht
    dsimp only at b1 b2 ⊢
    have hl1 : lgR z F I1 J := ⟨hl.1, by rw [b1 23 (by decide)]; exact hl.2.1, hl.2.2.1, fun j hj => by rw [b1 24 (by decide)]; exact hl.2.2.2 j hj⟩
    obtain ⟨y, v1, v2, v3⟩ := chN_ex hi
    rw [ub_c hl1 hw hp hz l1 hi v1 v2 v3, b1 25 (by decide), if_neg (fun w => y5 y v1 ⟨v2, w⟩), b1 6 (by decide), hI6 y v1]
    refine ⟨(j_up I1 4 y (a y), _, _), ⟨fun c hc => by dsimp only; rw [j_up_cell _ hc, b1 c hc], ?_⟩, rfl⟩
    dsimp only
    rw [j_up_row]
    exact pyV_step b2 v2 v3) (I, o5, o6) ⟨fun _ _ => rfl, pyV_zero a b a _⟩
  dsimp only at a1 a2 a3
  obtain ⟨q6, -, b2⟩ := j_runP (α := Option Value) (fun i o => jv (e + 2) 234 75 [some (.ref 0), some (.int l1), some (.int (nI s)), some (.int (nI (chN a b 1189))), some (.int (nI 148)), some (.int (nI i)), o] [] (shR, J, L', pR)) (fun _ _ => True) (chN a b 1189) (fun i hi o _ => by
    try dsimp only
    obtain ⟨y, v1, v2, v3⟩ := chN_ex hi
    obtain ⟨q, hq⟩ := ue_r (e := e) (L' := L') hl hw hp hz hr l1 hi v1 v2 v3 (ea := 148) (Nat.le_refl _) o
    refine ⟨q, trivial, hq.trans ?_⟩
    rw [if_neg (fun w => y5 y v1 ⟨v2, by rw [h25 _ (rowN_lt y v1)]; exact w.1⟩)]) o6 trivial
  have k3 := j_run (fun x => jv (e + 2) 234 163 [some (.ref 0), some (.int l1), some (.int (nI s)), some (.int (nI (chN a b 1189))), some (.int (nI 148)), some (.int (nI x)), q6] [] (shR, va_up J 7 (j_fill (J 7) (J 6) x), L', pR)) 1189 (fun x hx => by
    rw [B234_163, if_pos (show nI x < 1189 from nI_lt (b := 1189) hx (by decide)), if_pos (j_in_nI hx (by decide)), if_pos (j_in_nI hx (by decide)), nI_clamp (n := x) (by omega), nI_1, va_up_ne J _ (by decide : 6 ≠ 7), j_up_fill J 7 x (J 7) (J 6)])
  rw [j_fill_zero, va_up_same] at k3
  generalize hJ0 : va_up J 7 (j_fill (J 7) (J 6) 1189) = J0 at k3
  have f0 : ∀ c, c ≠ 7 → J0 c = J c := by
    subst hJ0
    exact fun c hc => va_up_ne _ _ hc
  have g0 : ∀ q, q < 1189 → J0 7 q = g q := by
    subst hJ0
    intro q hq
    rw [va_up_self]
    exact (if_pos hq).trans (h6 q hq)
  obtain ⟨⟨J1, r6⟩, ⟨c1, c2⟩, c3⟩ := j_runP (α := (Nat → Nat → Int32) × Option Value) (fun i t => jv (e + 2) 234 194 [some (.ref 0), some (.int l1), some (.int (nI s)), some (.int (nI (chN a b 1189))), some (.int (nI 148)), some (.int (nI i)), t.2] [] (shR, t.1, L', pR)) (fun i t => (∀ c, c ≠ 7 → t.1 c = J0 c) ∧ pyV a b a i (J0 7) (t.1 7)) (chN a b 1189) (fun i hi t ht => by
    obtain ⟨J1, r6⟩ := t
    obtain ⟨b1, b2⟩ := ht
    dsimp only at b1 b2 ⊢
    have hl1 : lgR z F I J1 := ⟨hl.1, hl.2.1, by rw [b1 0 (by decide), f0 0 (by decide)]; exact hl.2.2.1, fun j hj => by rw [b1 16 (by decide), f0 16 (by decide)]; exact hl.2.2.2 j hj⟩
    obtain ⟨y, v1, v2, v3⟩ := chN_ex hi
    obtain ⟨w1, w2, w3⟩ := hw
    have n2 := num_r (e := e + 1) (L' := L') (a := s + 4 + 6 * i) (k := 2) hl1 (by omega)
    have pl := (hp y v1 v2).1
    rw [v3] at pl
    rw [pl] at n2
    have e1 : nI s + 4 + 6 * nI i = nI (s + 4 + 6 * i) := by rw [show nI s + 4 = nI (s + 4) from nI_add s 4, show 6 * nI i = nI (6 * i) from nI_mul 6 i, nI_add]
    rw [B234_194, if_pos (nI_lt hi (by omega)), e1, show (2 : Int32) = nI 2 from rfl, jgo_some rfl n2]
    dsimp only [Option.toList_some, List.cons_append, List.nil_append]
    rw [B234_214, if_pos (j_in_nI v1 (by decide)), if_pos (j_in_nI v1 (by decide)), nI_clamp (n := y) (by omega), b1 8 (by decide), f0 8 (by decide), hJ8 y v1, nI_1]
    refine ⟨(j_up J1 7 y (a y), _), ⟨fun c hc => by dsimp only; rw [j_up_cell _ hc, b1 c hc], ?_⟩, rfl⟩
    dsimp only
    rw [j_up_row]
    exact pyV_step b2 v2 v3) (J0, q6) ⟨fun _ _ => rfl, pyV_zero a b a _⟩
  dsimp only at c1 c2 c3
  have same : ∀ q, q < 1189 → I1 4 q = J1 7 q ∧ okV q (J1 7 q) := by
    intro q hq
    by_cases w : a q ≠ b q ∧ chN a b q < chN a b 1189
    · rw [(a2 q hq).1 w, (c2 q hq).1 w]
      exact ⟨rfl, oa q hq⟩
    · rw [(a2 q hq).2 w, (c2 q hq).2 w, h4 q hq, g0 q hq]
      exact ⟨rfl, og q hq⟩
  refine ⟨J1 7, I1, J1, p5, p6, r6, ⟨fun q hq => (same q hq).1, fun _ _ => rfl, fun q hq => (same q hq).2, rCst_eq1 hr (fun c _ _ => by rw [c1 c (by omega), f0 c (by omega)])⟩, a1, fun c hc => by rw [c1 c hc, f0 c hc], (show _ = _ from a3).trans ?_, (show _ = _ from b2).trans ?_⟩
  · rw [B178_100, if_neg (nI_nlt (Nat.le_refl _) (by omega))]
  · rw [B234_75, if_neg (nI_nlt (Nat.le_refl _) (by omega)), if_neg (by decide)]
    refine (show _ = _ from k3).trans ?_
    rw [B234_163, if_neg (by decide)]
    refine (show _ = _ from c3).trans ?_
    rw [B234_194, if_neg (nI_nlt (Nat.le_refl _) (by omega))]
end LOOPS
end UNDB
