/-! The text kept, read again and again; settle() beside take() -/
section CRSB
variable {d e : Nat} {I J : Nat → Nat → Int32} {L L' : Nat → Nat → Int64} {pa pb pu pw : Option Nat}
/-- the program g stands as the first reader left it, reading the text of m -/
def kpT (g : Nat) (m : Nat → Int32) (I : Nat → Nat → Int32) : Prop := ∃ (n : Nat) (I0 : Nat → Nat → Int32) (L0 : Nat → Nat → Int64) (pa pb pu pw : Option Nat) (I1 : Nat → Nat → Int32) (L1 : Nat → Nat → Int64) (d M : Nat), n ≤ 1200 ∧ m 888 = nI n ∧ kwS L0 ∧ 150 ≤ d ∧ ((M = 1 ∧ ∀ q, q < 1189 → I0 2 q = m q) ∨ (M = 3 ∧ ∀ q, q < 1189 → I0 4 q = m q)) ∧ jv d 2 0 [some (.ref 27), some (.ref M), some (.ref g), none] [] (shC, I0, L0, pX pa pb pu pw) = some (some (.int 1), (shC, I1, L1, pX pa pb (some g) pw)) ∧ ∀ c, g ≤ c → c ≤ g + 10 → I c = I1 c
theorem kpT.congr {g : Nat} {m m' : Nat → Int32} {I2 : Nat → Nat → Int32} (h : kpT g m I) (e1 : ∀ c, g ≤ c → c ≤ g + 10 → I2 c = I c) (e2 : ∀ q, q < 1189 → m' q = m q) : kpT g m' I2 := by
  obtain ⟨n, I0, L0, pa, pb, pu, pw, I1, L1, d, M, h1, h2, h3, h4, h5, h6, h7⟩ := h
  refine ⟨n, I0, L0, pa, pb, pu, pw, I1, L1, d, M, h1, (e2 888 (by decide)).trans h2, h3, h4, ?_, h6, fun c c1 c2 => (e1 c c1 c2).trans (h7 c c1 c2)⟩
  rcases h5 with ⟨a, b⟩ | ⟨a, b⟩
  · exact Or.inl ⟨a, fun q hq => (b q hq).trans (e2 q hq).symm⟩
  · exact Or.inr ⟨a, fun q hq => (b q hq).trans (e2 q hq).symm⟩
/-- what the second reader leaves as it was -/
def rFr (J J1 : Nat → Nat → Int32) (L' L1' : Nat → Nat → Int64) : Prop := (∀ c, c ≠ 0 → c < 18 ∨ 36 < c → J1 c = J c) ∧ (∀ q, q < 27 ∨ 52 < q → J1 0 q = J 0 q) ∧ (∀ c, c < 20 ∨ 35 < c → L1' c = L' c)
theorem kpT.ref38 {m : Nat → Int32} (h : kpT 38 m I) (hJ : ∀ q, q < 1189 → J 6 q = m q) (hr : rCst J) (he : 150 ≤ e) : ∃ J1 L1', jv e 261 0 [some (.ref 0), some (.ref 6)] [] (shR, J, L', pR) = some (some (.int 1), (shR, J1, L1', pR)) ∧ prG 38 I J1 L1' ∧ rFr J J1 L' L1' := by
  obtain ⟨n, I0, L0, pa, pb, pu, pw, I1, L1, d, M, h1, h2, h3, h4, h5, h6, h7⟩ := h
  have key : jW2 (jv d 2 0 [some (.ref 27), some (.ref M), some (.ref 38), none] [] (shC, I0, L0, pX pa pb pu pw)) (jv e 261 0 [some (.ref 0), some (.ref 6)] [] (shR, J, L', pR)) (psQ 38 I0 L0 J L' (pX pa pb (some 38) pw)) := by
    rcases h5 with ⟨rfl, b⟩ | ⟨rfl, b⟩
    · exact parse_sim38_1 h4 he h1 h2 b hJ hr h3
    · exact parse_sim38_36 h4 he h1 h2 b hJ hr h3
  obtain ⟨v, S, w, S', k1, k2, I2, L2, J2, L2', x, rfl, rfl, rfl, rfl, fr, z⟩ := key
  rw [h6] at k1
  cases k1
  refine ⟨J2, L2', ?_, ?_, fr.2.2.1, fr.2.2.2.1, fr.2.2.2.2⟩
  · exact k2
  · rcases z with ⟨_, z, _⟩ | ⟨z, _⟩
    · exact z.congr (fun c c1 c2 => h7 c c1 c2) (fun _ _ => rfl) (fun _ _ _ => rfl) (fun _ _ => rfl)
    · exact absurd z (by decide)
theorem kpT.ref49 {m : Nat → Int32} (h : kpT 49 m I) (hJ : ∀ q, q < 1189 → J 6 q = m q) (hr : rCst J) (he : 150 ≤ e) : ∃ J1 L1', jv e 261 0 [some (.ref 0), some (.ref 6)] [] (shR, J, L', pR) = some (some (.int 1), (shR, J1, L1', pR)) ∧ prG 49 I J1 L1' ∧ rFr J J1 L' L1' := by
  obtain ⟨n, I0, L0, pa, pb, pu, pw, I1, L1, d, M, h1, h2, h3, h4, h5, h6, h7⟩ := h
  have key : jW2 (jv d 2 0 [some (.ref 27), some (.ref M), some (.ref 49), none] [] (shC, I0, L0, pX pa pb pu pw)) (jv e 261 0 [some (.ref 0), some (.ref 6)] [] (shR, J, L', pR)) (psQ 49 I0 L0 J L' (pX pa pb (some 49) pw)) := by
    rcases h5 with ⟨rfl, b⟩ | ⟨rfl, b⟩
    · exact parse_sim49_1 h4 he h1 h2 b hJ hr h3
    · exact parse_sim49_36 h4 he h1 h2 b hJ hr h3
  obtain ⟨v, S, w, S', k1, k2, I2, L2, J2, L2', x, rfl, rfl, rfl, rfl, fr, z⟩ := key
  rw [h6] at k1
  cases k1
  refine ⟨J2, L2', ?_, ?_, fr.2.2.1, fr.2.2.2.1, fr.2.2.2.2⟩
  · exact k2
  · rcases z with ⟨_, z, _⟩ | ⟨z, _⟩
    · exact z.congr (fun c c1 c2 => h7 c c1 c2) (fun _ _ => rfl) (fun _ _ _ => rfl) (fun _ _ => rfl)
    · exact absurd z (by decide)
theorem cpy_back (I : Nat → Nat → Int32) {q : Nat} (hq : q < 1189) : va_cpy (I 4) (I 2) (0 : Int32).toNatClampNeg (0 : Int32).toNatClampNeg (1189 : Int32).toNatClampNeg q = I 4 q := by
  have e0 : (0 : Int32).toNatClampNeg = 0 := by decide
  have e1 : (1189 : Int32).toNatClampNeg = 1189 := by decide
  unfold va_cpy
  rw [e0, e1, if_pos ⟨Nat.zero_le _, by omega⟩, Nat.zero_add, Nat.sub_zero]
theorem copy_k {I : Nat → Nat → Int32} : ∃ I', (∀ k, k ≠ 2 → I' k = I k) ∧ (∀ q, q < 1189 → I' 2 q = I 4 q) ∧ jv d 48 0 [some (.ref 1), some (.ref 3)] [] (shC, I, L, pX pa pb pu pw) = some (none, (shC, I', L, pX pa pb pu pw)) := by
  rw [B48_0_o1, if_neg (by decide)]
  exact ⟨_, fun k hk => va_up_ne _ _ hk, fun q hq => by rw [va_up_self]; exact cpy_back I hq, rfl⟩
theorem mkR.uniq {a b : Nat → Int32} {x c : Nat} {g g' h h' : Nat → Int32} (h1 : mkR a b x c g g') (h2 : mkR a b x c h h') (e1 : ∀ r, r < 148 → g r = h r) : ∀ r, r < 148 → g' r = h' r := by
  intro r hr
  by_cases q : chR a b x r
  · rw [(h1 r hr).1 q, (h2 r hr).1 q]
  · rw [(h1 r hr).2 q, (h2 r hr).2 q, e1 r hr]
/-- the rules' row, in the second -/
theorem rules_r {e : Nat} {x : Int32} {J1 : Nat → Nat → Int32} {L1' : Nat → Nat → Int64} (hr : rCst J) (hr1 : rCst J1) (hx : x = 0 ∨ x = 1) (hp : jv e 261 0 [some (.ref 0), some (.ref 7)] [] (shR, J, L', pR) = some (some (.int x), (shR, J1, L1', pR))) : jv (e + 2) 242 10 [some (.ref 0), some (.ref 7), some (.int (nI 12)), some (.int (nI 0))] [] (shR, J, L', pR) = some (some (.int (if x = 0 then 147 else -1)), (shR, J1, L1', pR)) := by
  have m1 : J 1 12 = nI 1 := hr.1 12 (by decide)
  have m3 : J1 3 12 = nI 147 := hr1.2.2.1 12 (by decide)
  have m1' : J1 1 12 = nI 1 := hr1.1 12 (by decide)
  have s1 : jv (e + 1) 243 0 [some (.ref 0), some (.ref 7), some (.int (nI 12)), some (.int (nI 0)), none] [] (shR, J, L', pR) = some (some (.int x), (shR, J1, L1', pR)) := by
    rw [B243_0_a7, show (0 : Int32) = nI 0 from rfl, jgo_some (d := e) rfl (at_ok hr (t := 12) (by decide) 0 0)]
    dsimp only [Option.toList_some, Option.toList_none, List.cons_append, List.nil_append]
    simp (decide := true) only [B243_7_a7, ↓reduceIte]
    rw [jgo_some (d := e) rfl hp]
    dsimp only [Option.toList_some, Option.toList_none, List.cons_append, List.nil_append]
    rw [B243_341_a7, if_pos]
    rcases hx with z | z <;> rw [z] <;> decide
  rw [B242_10_a7, if_pos (by decide), nI_clamp (by decide), m1, if_pos (by decide), jgo_some (d := e + 1) rfl s1]
  dsimp only [Option.toList_some, Option.toList_none, List.cons_append, List.nil_append]
  rw [B242_27_a7, nI_clamp (by decide), m3]
  rcases hx with z | z
  · rw [if_pos z, if_pos (by decide), if_pos z]
    rfl
  · rw [if_neg (by rw [z]; decide), if_neg (by rw [z]; decide), show nI 0 + 1 = nI 1 from nI_add 0 1, B242_10_a7, if_pos (by decide), nI_clamp (by decide), m1', if_neg (by decide), show nI 12 + 1 = nI 13 from nI_add 12 1, B242_2_a7, if_neg (by decide)]
theorem rows_l7 : ∀ t, t < 11 → frN.getD t 0 + rowsN.getD t 0 ≤ 147 := by decide +kernel
section
variable {m : Nat → Int32}
theorem rows_u (h : mT m I J) {t : Nat} (h2 : 2 ≤ t) (h10 : t ≤ 10) : ∀ (n r : Nat), r + n = rowsN.getD t 0 → (∃ w, w < 147 ∧ jv (d + 6) 60 10 [some (.ref 3), some (.int (nI t)), some (.int (nI r))] [] (shC, I, L, pX pa pb pu pw) = some (some (.int (nI w)), (shC, I, L, pX pa pb pu pw)) ∧ jv (e + 6) 242 10 [some (.ref 0), some (.ref 7), some (.int (nI t)), some (.int (nI r))] [] (shR, J, L', pR) = some (some (.int (nI w)), (shR, J, L', pR))) ∨ (∃ o q, (t = 7 → ∀ k, r ≤ k → k < 8 → plR m k) ∧ jv (d + 6) 60 10 [some (.ref 3), some (.int (nI t)), some (.int (nI r))] [] (shC, I, L, pX pa pb pu pw) = jv (d + 6) 60 2 [some (.ref 3), some (.int (nI (t + 1))), o] [] (shC, I, L, pX pa pb pu pw) ∧ jv (e + 6) 242 10 [some (.ref 0), some (.ref 7), some (.int (nI t)), some (.int (nI r))] [] (shR, J, L', pR) = jv (e + 6) 242 2 [some (.ref 0), some (.ref 7), some (.int (nI (t + 1))), q] [] (shR, J, L', pR)) := by
  have ht13 : t < 13 := by omega
  have jt : j_in (nI t) 13 = true := j_in_nI ht13 (by decide)
  have n1 := h.2.2.2.1 t ht13
  have n3 := h.2.2.2.2.2.1 t ht13
  have le := rows_lt t ht13
  have le7 := rows_l7 t (by omega)
  intro n
  induction n with
  | zero =>
    intro r hr
    refine Or.inr ⟨some (.int (nI r)), some (.int (nI r)), fun h7 k hk1 hk2 => ?_, ?_, ?_⟩
    · subst h7
      have : rowsN.getD 7 0 = 8 := rfl
      omega
    · rw [B60_10_o3, if_pos jt, nI_clamp (n := t) (by omega), tz0' t ht13, if_neg (nI_nlt (by omega) (by omega)), nI_1]
    · rw [B242_10_a7, if_pos jt, nI_clamp (n := t) (by omega), n1, if_neg (nI_nlt (by omega) (by omega)), nI_1]
  | succ n ih =>
    intro r hr
    obtain ⟨b, ⟨b1, b2, b3⟩, b4⟩ := row_any (d := d) (e := e) (L := L) (L' := L') (pa := pa) (pb := pb) (pu := pu) (pw := pw) h h2 h10 (show r < rowsN.getD t 0 by omega)
    have kC : jv (d + 6) 60 10 [some (.ref 3), some (.int (nI t)), some (.int (nI r))] [] (shC, I, L, pX pa pb pu pw) = if b = 0 then some (some (.int (nI (frN.getD t 0 + r))), (shC, I, L, pX pa pb pu pw)) else jv (d + 6) 60 10 [some (.ref 3), some (.int (nI t)), some (.int (nI (r + 1)))] [] (shC, I, L, pX pa pb pu pw) := by
      rw [B60_10_o3, if_pos jt, nI_clamp (n := t) (by omega), tz0' t ht13, if_pos (nI_lt (by omega) (by omega)), jgo_some rfl b2]
      dsimp only [Option.toList_some, List.cons_append, List.nil_append]
      rw [B60_25_o3, if_pos jt, nI_clamp (n := t) (by omega), tz2' t ht13, nI_add, nI_1]
    have kR : jv (e + 6) 242 10 [some (.ref 0), some (.ref 7), some (.int (nI t)), some (.int (nI r))] [] (shR, J, L', pR) = if b = 0 then some (some (.int (nI (frN.getD t 0 + r))), (shR, J, L', pR)) else jv (e + 6) 242 10 [some (.ref 0), some (.ref 7), some (.int (nI t)), some (.int (nI (r + 1)))] [] (shR, J, L', pR) := by
      rw [B242_10_a7, if_pos jt, nI_clamp (n := t) (by omega), n1, if_pos (nI_lt (by omega) (by omega)), jgo_some rfl b3]
      dsimp only [Option.toList_some, List.cons_append, List.nil_append]
      rw [B242_27_a7, if_pos jt, nI_clamp (n := t) (by omega), n3, nI_add, nI_1]
    rw [kC, kR]
    by_cases q : b = 0
    · rw [if_pos q, if_pos q]
      exact Or.inl ⟨frN.getD t 0 + r, by omega, rfl, rfl⟩
    · rw [if_neg q, if_neg q]
      rcases ih (r + 1) (by omega) with z | ⟨o, q', z1, z2, z3⟩
      · exact Or.inl z
      · refine Or.inr ⟨o, q', fun h7 k hk1 hk2 => ?_, z2, z3⟩
        by_cases w : k = r
        · rw [w]; exact b4 (b1.resolve_left q) h7
        · exact z1 h7 k (by omega) hk2
/-- the first row that is not right; the rules stand aside -/
theorem fault_u (h : mT m I J) : (∃ w, w < 147 ∧ jv (d + 6) 60 0 [some (.ref 3), none, none] [] (shC, I, L, pX pa pb pu pw) = some (some (.int (nI w)), (shC, I, L, pX pa pb pu pw)) ∧ jv (e + 6) 242 0 [some (.ref 0), some (.ref 7), none, none] [] (shR, J, L', pR) = some (some (.int (nI w)), (shR, J, L', pR))) ∨ ((∀ k, k < 8 → plR m k) ∧ jv (d + 6) 60 0 [some (.ref 3), none, none] [] (shC, I, L, pX pa pb pu pw) = some (some (.int (-1)), (shC, I, L, pX pa pb pu pw)) ∧ jv (e + 6) 242 0 [some (.ref 0), some (.ref 7), none, none] [] (shR, J, L', pR) = jv (e + 6) 242 10 [some (.ref 0), some (.ref 7), some (.int (nI 12)), some (.int (nI 0))] [] (shR, J, L', pR)) := by
  obtain ⟨q0, f0⟩ := free_r (e := e) (L' := L') h (t := 0) (Or.inl rfl) none
  obtain ⟨q1, f1⟩ := free_r (e := e) (L' := L') h (t := 1) (Or.inr (Or.inl rfl)) q0
  have tabs : ∀ (n t : Nat) (o q : Option Value), 2 ≤ t → t + n = 11 → (∃ w, w < 147 ∧ jv (d + 6) 60 2 [some (.ref 3), some (.int (nI t)), o] [] (shC, I, L, pX pa pb pu pw) = some (some (.int (nI w)), (shC, I, L, pX pa pb pu pw)) ∧ jv (e + 6) 242 2 [some (.ref 0), some (.ref 7), some (.int (nI t)), q] [] (shR, J, L', pR) = some (some (.int (nI w)), (shR, J, L', pR))) ∨ ((t ≤ 7 → ∀ k, k < 8 → plR m k) ∧ jv (d + 6) 60 2 [some (.ref 3), some (.int (nI t)), o] [] (shC, I, L, pX pa pb pu pw) = some (some (.int (-1)), (shC, I, L, pX pa pb pu pw)) ∧ ∃ q', jv (e + 6) 242 2 [some (.ref 0), some (.ref 7), some (.int (nI t)), q] [] (shR, J, L', pR) = jv (e + 6) 242 2 [some (.ref 0), some (.ref 7), some (.int (nI 11)), q'] [] (shR, J, L', pR)) := by
    intro n
    induction n with
    | zero =>
      intro t o q h2 ht
      have : t = 11 := by omega
      subst this
      refine Or.inr ⟨fun z => absurd z (by decide), ?_, q, rfl⟩
      rw [B60_2_o3, if_neg (by decide)]
    | succ n ih =>
      intro t o q h2 ht
      rw [B60_2_o3, if_pos (show nI t < 11 from nI_lt (b := 11) (by omega) (by decide)), B242_2_a7, if_pos (show nI t < 13 from nI_lt (b := 13) (by omega) (by decide))]
      rcases rows_u (d := d) (e := e) (L := L) (L' := L') (pa := pa) (pb := pb) (pu := pu) (pw := pw) h h2 (by omega) (rowsN.getD t 0) 0 (Nat.zero_add _) with ⟨w, w1, w2, w3⟩ | ⟨o', q', z1, z2, z3⟩
      · exact Or.inl ⟨w, w1, w2, w3⟩
      · rcases ih (t + 1) o' q' (by omega) (by omega) with ⟨w, w1, w2, w3⟩ | ⟨y1, y2, q'', y3⟩
        · exact Or.inl ⟨w, w1, (show _ = _ from z2).trans w2, (show _ = _ from z3).trans w3⟩
        · refine Or.inr ⟨fun h7 k hk => ?_, (show _ = _ from z2).trans y2, q'', (show _ = _ from z3).trans y3⟩
          by_cases w : t = 7
          · exact z1 w k (Nat.zero_le _) hk
          · exact y1 (by omega) k hk
  rw [B60_0_o3, B242_0_a7]
  rcases tabs 9 2 none q1 (by decide) rfl with ⟨w, w1, w2, w3⟩ | ⟨y1, y2, q', y3⟩
  · exact Or.inl ⟨w, w1, w2, ((show _ = _ from f0).trans f1).trans w3⟩
  · obtain ⟨q2, f2⟩ := free_r (e := e) (L' := L') h (t := 11) (Or.inr (Or.inr rfl)) q'
    refine Or.inr ⟨y1 (by decide), y2, (((show _ = _ from f0).trans f1).trans y3).trans (f2.trans ?_)⟩
    rw [B242_2_a7, if_pos (by decide)]
    rfl
end
/-- what a call tells of a fault in the text -/
def toldE (I J : Nat → Nat → Int32) : Prop := I 0 9 = J 0 21 ∧ (if I 0 9 = 0 then -2 else I 0 10) = J 0 22
/-- settle: nothing is taken -/
def stN (g g' : Nat) (I J I1 J1 : Nat → Nat → Int32) (L1' : Nat → Nat → Int64) : Prop := prG g I1 J1 L1' ∧ (∀ k, k ≠ 0 → k < 27 ∨ 37 < k → k < g' ∨ g' + 10 < k → I1 k = I k) ∧ (∀ f, f ≠ 9 → f ≠ 10 → I1 0 f = I 0 f) ∧ (∀ k, k ≠ 0 → k < 18 ∨ 36 < k → J1 k = J k) ∧ (∀ q, q ≠ 21 → q ≠ 22 → q < 27 ∨ 52 < q → J1 0 q = J 0 q)
/-- settle: the model on trial is the kept one from now on -/
def stY (g' : Nat) (a b : Nat → Int32) (c s : Nat) (F : Nat → Int32) (I J I1 J1 : Nat → Nat → Int32) (L1' : Nat → Nat → Int64) : Prop := prG g' I1 J1 L1' ∧ kpT g' b I1 ∧ (∀ q, q < 1189 → I1 2 q = b q) ∧ (∀ q, q < 1189 → J1 6 q = b q) ∧ (∃ F', lgR (s + 5 + 6 * chN a b 1189) F' I1 J1 ∧ (∀ i, i < s → F' i = F i) ∧ nmV F' (s + 2) 2 = nI (chN a b 1189) ∧ recP F' s a b 1189) ∧ (∀ r, r < 148 → I1 25 r = J1 15 r) ∧ I1 0 8 = nI (c + 1) ∧ J1 0 15 = nI (c + 1) ∧ (I1 60 2 = 0 ∧ I1 83 0 = 0 ∧ I1 96 0 = 0 ∧ I1 107 0 = 0 ∧ I1 107 1 = 0 ∧ I1 116 10 = 0) ∧ (J1 0 59 = 0 ∧ J1 0 87 = 0 ∧ J1 0 103 = 0 ∧ J1 0 107 = 0 ∧ J1 0 120 = 0) ∧ (∀ k, k ≠ 0 → k ≠ 2 → k ≠ 23 → k ≠ 24 → k ≠ 25 → k < 27 ∨ 37 < k → k < g' ∨ g' + 10 < k → k ≠ 60 → k ≠ 83 → k ≠ 96 → k ≠ 107 → k ≠ 116 → I1 k = I k) ∧ (∀ f, f ≠ 8 → I1 0 f = I 0 f) ∧ ((∀ f, f ≠ 2 → I1 60 f = I 60 f) ∧ (∀ f, f ≠ 0 → I1 83 f = I 83 f) ∧ (∀ f, f ≠ 0 → I1 96 f = I 96 f) ∧ (∀ f, f ≠ 0 → f ≠ 1 → I1 107 f = I 107 f) ∧ ∀ f, f ≠ 10 → I1 116 f = I 116 f) ∧ (∀ k, k ≠ 0 → k ≠ 6 → k ≠ 15 → k ≠ 16 → k < 18 ∨ 36 < k → J1 k = J k) ∧ (∀ q, q ≠ 15 → q ≠ 17 → q ≠ 21 → q ≠ 22 → q < 27 ∨ 52 < q → q ≠ 59 → q ≠ 87 → q ≠ 103 → q ≠ 107 → q ≠ 120 → J1 0 q = J 0 q)
def stQ (g g' : Nat) (a b : Nat → Int32) (c s : Nat) (F : Nat → Int32) (I : Nat → Nat → Int32) (L : Nat → Nat → Int64) (J : Nat → Nat → Int32) (L' : Nat → Nat → Int64) (pw : Option Nat) (v : Option Value) (S : jS) (w : Option Value) (S' : jS) : Prop := ∃ I1 L1 J1 L1' x pu1, v = some (.int x) ∧ w = some (.int x) ∧ S' = (shR, J1, L1', pR) ∧ (∀ c, c < 30 ∨ 34 < c → L1 c = L c) ∧ (∀ c, c < 20 ∨ 35 < c → L1' c = L' c) ∧ toldE I1 J1 ∧ ((x < 0 ∧ S = (shC, I1, L1, pX (some g) (some g') pu1 pw) ∧ stN g g' I J I1 J1 L1') ∨ (x = nI (c + 1) ∧ S = (shC, I1, L1, pX (some g') (some g) pu1 pw) ∧ stY g' a b c s F I J I1 J1 L1'))
theorem pX_ab (pu : Option Nat) (x y : Option Nat) : j_up (j_up (pX pa pb pu pw) 0 13 x) 0 14 y = pX x y pu pw := by
  funext c f
  rw [j_up_app]
  by_cases h1 : c = 0
  · subst h1
    rw [if_pos rfl]
    by_cases h2 : f = 14
    · subst h2; rw [if_pos rfl]; rfl
    · rw [if_neg h2, j_up_own]
      by_cases h3 : f = 13
      · subst h3; rw [if_pos rfl]; rfl
      · rw [if_neg h3]
        unfold pX
        split <;> first | rfl | exact absurd rfl h2 | exact absurd rfl h3 | (split <;> first | rfl | (exfalso; simp_all))
  · rw [if_neg h1, j_up_cell _ h1]
    unfold pX
    split <;> first | rfl | exact absurd rfl h1 | (split <;> first | rfl | (exfalso; simp_all))
set_option maxRecDepth 100000 in
theorem B185_152_x49 (d : Nat) (I : Nat → Nat → Int32) (L : Nat → Nat → Int64) (pu : Option Nat) (pw : Option Nat) (l1 : Int32) (l2 : Int32) : jv d 185 152 [some (.ref 0), some (.int l1), some (.int l2), some (.ref 38)] [] (shC, I, L, pX (some 49) (some 38) pu pw) = some (some (.int (I 0 8)), (shC, I, L, pX (some 49) (some 38) pu pw)) := (jblk_eq jTT jMM [7, 33, 98, 119, 130, 152] d mq_185 4 _ _ _ _).trans rfl
set_option maxRecDepth 100000 in
theorem B185_152_x38 (d : Nat) (I : Nat → Nat → Int32) (L : Nat → Nat → Int64) (pu : Option Nat) (pw : Option Nat) (l1 : Int32) (l2 : Int32) : jv d 185 152 [some (.ref 0), some (.int l1), some (.int l2), some (.ref 49)] [] (shC, I, L, pX (some 38) (some 49) pu pw) = some (some (.int (I 0 8)), (shC, I, L, pX (some 38) (some 49) pu pw)) := (jblk_eq jTT jMM [7, 33, 98, 119, 130, 152] d mq_185 4 _ _ _ _).trans rfl
theorem nI_m300 : ∀ w, w < 148 → (-300 : Int32) - nI w < 0 := by decide +kernel
theorem settle_sim38 {a b F : Nat → Int32} {c s : Nat} (hd : 160 ≤ d) (he : 160 ≤ e) (hm : mT b I J) (hI2 : ∀ q, q < 1189 → I 2 q = a q) (hJ6 : ∀ q, q < 1189 → J 6 q = a q) (hk : kpT 38 a I) (kw : kwS L) (h8 : I 0 8 = nI c) (h15 : J 0 15 = nI c) (hl : lgR s F I J) (h25 : ∀ r, r < 148 → I 25 r = J 15 r) (h9 : I 0 9 = 0) : jW2 (jv d 185 0 [some (.ref 0), none, none, none] [] (shC, I, L, pX (some 38) (some 49) pu pw)) (jv e 230 0 [some (.ref 0), none, none, none, none, none] [] (shR, J, L', pR)) (stQ 38 49 a b c s F I L J L' pw) := by
  obtain ⟨d, rfl⟩ : ∃ d', d = d' + 7 := ⟨d - 7, by omega⟩
  obtain ⟨e, rfl⟩ : ∃ e', e = e' + 7 := ⟨e - 7, by omega⟩
  have hr : rCst J := hm.2.2.2
  obtain ⟨n, hn, h888⟩ := (hm.2.2.1 888 (by decide)).2 rfl
  -- the second one reads the kept text again
  have again : ∀ (J2 : Nat → Nat → Int32) (L2' : Nat → Nat → Int64), rCst J2 → (∀ q, q < 1189 → J2 6 q = a q) → ∃ J3 L3', jv (e + 6) 261 0 [some (.ref 0), some (.ref 6)] [] (shR, J2, L2', pR) = some (some (.int 1), (shR, J3, L3', pR)) ∧ prG 38 I J3 L3' ∧ rFr J2 J3 L2' L3' := fun J2 L2' h1 h2 => hk.ref38 h2 h1 (by omega)
  rw [B185_0_g38, B230_0]
  rcases fault_u (d := d) (e := e) (L := L) (L' := L') (pa := some 38) (pb := some 49) (pu := pu) (pw := pw) hm with ⟨w, hw, f1, f2⟩ | ⟨hpl, f1, f2⟩
  · -- a row that is not right
    obtain ⟨J3, L3', r1, r2, r3, r4, r5⟩ := again J L' hr hJ6
    rw [jgo_some (d := d + 6) rfl f1, jgo_some (d := e + 6) rfl f2]
    dsimp only [Option.toList_some, Option.toList_none, List.cons_append, List.nil_append]
    rw [B185_7_g38, if_neg (nI_pos (by omega)), B230_8, if_neg (show ¬ nI w = (147 : Int32) from fun z => by have := (nI_eq (b := 147) (by omega) (by decide)).mp z; omega), B230_24, if_neg (show ¬ nI w = (147 : Int32) from fun z => by have := (nI_eq (b := 147) (by omega) (by decide)).mp z; omega), B230_41, if_neg (nI_pos (by omega)), jgo_some (d := e + 6) rfl r1]
    dsimp only [Option.toList_some, Option.toList_none, List.cons_append, List.nil_append]
    rw [B230_54]
    refine jW2_some ⟨I, L, _, L3', -300 - nI w, pu, rfl, rfl, rfl, fun _ _ => rfl, r5, ⟨?_, ?_⟩, Or.inl ⟨nI_m300 w (by omega), rfl, ?_, fun _ _ _ _ => rfl, fun _ _ _ => rfl, ?_, ?_⟩⟩
    · rw [j_up_own, if_neg (by decide), j_up_own, if_pos rfl]; exact h9
    · rw [if_pos h9, j_up_own, if_pos rfl]
    · exact r2.congr (fun _ _ _ => rfl) (fun q hq => by rw [j_up_own, if_neg (by omega), j_up_own, if_neg (by omega)]) (fun c c1 c2 => by rw [j_up_cell _ (by omega), j_up_cell _ (by omega)]) (fun _ _ => rfl)
    · intro k k1 k2
      rw [j_up_cell _ k1, j_up_cell _ k1]; exact r3 k k1 k2
    · intro q q1 q2 q3
      rw [j_up_own, if_neg q2, j_up_own, if_neg q1]; exact r4 q q3
  -- the text on trial
  obtain ⟨v, S, w, S', p1, p2, I1, L1, J1, L1', x, rfl, rfl, rfl, rfl, fr, z⟩ := parse_sim49_3 (d := d + 6) (e := e + 4) (L := L) (L' := L') (pa := some 38) (pb := some 49) (pu := pu) (pw := pw) (by omega) (by omega) hn h888 hm.1 hm.2.1 hr kw
  have hr1 : rCst J1 := rCst_eq1 hr (fun c hc c6 => fr.2.2.1 c hc (by omega))
  have J16 : ∀ q, q < 1189 → J1 6 q = a q := fun q hq => by rw [fr.2.2.1 6 (by decide) (by decide)]; exact hJ6 q hq
  rw [jgo_some (d := d + 6) rfl f1]
  dsimp only [Option.toList_some, Option.toList_none, List.cons_append, List.nil_append]
  rw [B185_7_g38, if_pos (by decide), jgo_some (d := d + 6) rfl p1]
  dsimp only [Option.toList_some, Option.toList_none, List.cons_append, List.nil_append]
  rw [B185_33_g38]
  rcases z with ⟨rfl, pg, z0, z29⟩ | ⟨rfl, zb⟩
  case inr =>
    have e242 : jv (e + 6) 242 0 [some (.ref 0), some (.ref 7), none, none] [] (shR, J, L', pR) = some (some (.int 147), (shR, J1, L1', pR)) := by
      rw [f2, rules_r hr hr1 (Or.inl rfl) p2, if_pos rfl]
    obtain ⟨J3, L3', r1, r2, r3, r4, r5⟩ := again J1 L1' hr1 J16
    obtain ⟨f, p, y1, y2, y3, y4, y5, y6⟩ := zb
    rw [if_pos rfl, if_pos (by decide), jgo_some (d := e + 6) rfl e242]
    dsimp only [Option.toList_some, Option.toList_none, List.cons_append, List.nil_append]
    rw [B230_8, if_pos rfl, B230_24, if_pos rfl, B230_41, if_neg (by decide), jgo_some (d := e + 6) rfl r1]
    dsimp only [Option.toList_some, Option.toList_none, List.cons_append, List.nil_append]
    rw [B230_54]
    have nf : nI f ≠ 0 := fun z => by have := (nI_eq (b := 0) (by omega) (by decide)).mp z; omega
    refine jW2_some ⟨_, L1, _, L3', -300 - 147, some 49, rfl, rfl, rfl, fr.2.1, fun c hc => (r5 c hc).trans (fr.2.2.2.2 c hc), ⟨?_, ?_⟩, Or.inl ⟨by decide, rfl, ?_, ?_, ?_, ?_, ?_⟩⟩
    · rw [j_up_own, if_neg (by decide), j_up_own, if_pos rfl, j_up_own, if_neg (by decide), j_up_own, if_pos rfl, y3, y5]
    · rw [show j_up (j_up I1 0 9 (I1 27 0)) 0 10 (j_up I1 0 9 (I1 27 0) 27 1) 0 9 = nI f by rw [j_up_own, if_neg (by decide), j_up_own, if_pos rfl]; exact y3, if_neg nf, j_up_own, if_pos rfl, j_up_cell _ (by decide), y4, j_up_own, if_pos rfl, y6]
    · exact r2.congr (fun c c1 c2 => by rw [j_up_cell _ (by omega), j_up_cell _ (by omega)]; exact fr.1 c (by omega) (by omega)) (fun q hq => by rw [j_up_own, if_neg (by omega), j_up_own, if_neg (by omega)]) (fun c c1 c2 => by rw [j_up_cell _ (by omega), j_up_cell _ (by omega)]) (fun _ _ => rfl)
    · intro k k1 k2 k3
      rw [j_up_cell _ k1, j_up_cell _ k1]; exact fr.1 k k2 k3
    · intro f f1 f2
      rw [j_up_own, if_neg f2, j_up_own, if_neg f1, fr.1 0 (by decide) (by decide)]
    · intro k k1 k2
      rw [j_up_cell _ k1, j_up_cell _ k1, r3 k k1 k2]; exact fr.2.2.1 k k1 k2
    · intro q q1 q2 q3
      rw [j_up_own, if_neg q2, j_up_own, if_neg q1, r4 q q3]; exact fr.2.2.2.1 q q3
  have e242 : jv (e + 6) 242 0 [some (.ref 0), some (.ref 7), none, none] [] (shR, J, L', pR) = some (some (.int (-1)), (shR, J1, L1', pR)) := by
    rw [f2, rules_r hr hr1 (Or.inr rfl) p2, if_neg (by decide)]
  have i08 : I1 0 8 = nI c := by rw [fr.1 0 (by decide) (by decide)]; exact h8
  have i231 : I1 23 = I 23 := fr.1 23 (by decide) (by decide)
  have hl1 : lgR s F I1 J1 := ⟨hl.1, by rw [i231]; exact hl.2.1, by rw [fr.2.2.2.1 17 (by decide)]; exact hl.2.2.1, fun i hi => by rw [fr.1 24 (by decide) (by decide), fr.2.2.1 16 (by decide) (by decide)]; exact hl.2.2.2 i hi⟩
  have I12 : ∀ q, q < 1189 → I1 2 q = a q := fun q hq => by rw [fr.1 2 (by decide) (by decide)]; exact hI2 q hq
  have I14 : ∀ q, q < 1189 → I1 4 q = b q := fun q hq => by rw [fr.1 4 (by decide) (by decide)]; exact hm.1 q hq
  have J17 : ∀ q, q < 1189 → J1 7 q = b q := fun q hq => by rw [fr.2.2.1 7 (by decide) (by decide)]; exact hm.2.1 q hq
  have j015 : J1 0 15 = nI c := by rw [fr.2.2.2.1 15 (by decide)]; exact h15
  rw [if_neg (by decide), i08, show nI c + 1 = nI (c + 1) from nI_add c 1, jgo_some (d := e + 6) rfl e242]
  dsimp only [Option.toList_some, Option.toList_none, List.cons_append, List.nil_append]
  rw [B230_8, if_neg (by decide), B230_24, if_neg (by decide), B230_41, if_pos (by decide)]
  rcases rec_sim (d := d + 4) (e := e + 5) (L := L1) (L' := L1') (pa := some 38) (pb := some 49) (pu := some 49) (pw := pw) hr1 I12 I14 J16 J17 j015 hl1 (-1) 0 (-2) with ⟨hbig, c1, l4, l5, c2⟩ | ⟨hsm, F', I2, J2, l4, l5, g1, g2, g3, g4, g5, g6, g7, g8, g9, g10, g11, g12, g13, c1, c2⟩
  · -- no room in the log
    have J26 : ∀ q, q < 1189 → j_up (j_up J1 0 21 0) 0 22 (-2) 6 q = a q := fun q hq => by rw [j_up_cell _ (by decide), j_up_cell _ (by decide)]; exact J16 q hq
    obtain ⟨J3, L3', r1, r2, r3, r4, r5⟩ := again (j_up (j_up J1 0 21 0) 0 22 (-2)) L1' (rCst_eq1 hr1 (fun c hc _ => by rw [j_up_cell _ hc, j_up_cell _ hc])) J26
    rw [jgo_some (d := d + 6) rfl c1, show jv (e + 7) 230 77 [some (.ref 0), some (.int (-1)), some (.int 0), some (.int (-2)), some (.int 0), some (.int 0)] [] (shR, J1, L1', pR) = _ from c2, jgo_some (d := e + 6) rfl r1]
    dsimp only [Option.toList_some, Option.toList_none, List.cons_append, List.nil_append]
    rw [B185_98_g38, if_pos rfl, B230_154]
    have i09 : I1 0 9 = 0 := by rw [fr.1 0 (by decide) (by decide)]; exact h9
    refine jW2_some ⟨I1, L1, J3, L3', -4, some 49, rfl, rfl, rfl, fr.2.1, fun c hc => (r5 c hc).trans (fr.2.2.2.2 c hc), ⟨?_, ?_⟩, Or.inl ⟨by decide, rfl, ?_, ?_, ?_, ?_, ?_⟩⟩
    · rw [r4 21 (by decide), j_up_own, if_neg (by decide), j_up_own, if_pos rfl]; exact i09
    · rw [if_pos i09, r4 22 (by decide), j_up_own, if_pos rfl]
    · exact r2.congr (fun c c1 c2 => fr.1 c (by omega) (by omega)) (fun _ _ => rfl) (fun _ _ _ => rfl) (fun _ _ => rfl)
    · exact fun k k1 k2 k3 => fr.1 k k2 k3
    · exact fun f f1 f2 => by rw [fr.1 0 (by decide) (by decide)]
    · intro k k1 k2
      rw [r3 k k1 k2, j_up_cell _ k1, j_up_cell _ k1]; exact fr.2.2.1 k k1 k2
    · intro q q1 q2 q3
      rw [r4 q q3, j_up_own, if_neg q2, j_up_own, if_neg q1]; exact fr.2.2.2.1 q q3
  -- taken
  have hch : chN a b 1189 ≤ 1189 := chN_le a b 1189
  obtain ⟨I3, m1, m2, m3⟩ := mark_c (d := d + 2) (L := L1) (pa := some 38) (pb := some 49) (pu := some 49) (pw := pw) (I := j_up I2 0 8 (nI (c + 1))) (J := J2) (a := a) (b := b) (s := s) (c := c + 1) (F := F') (z := s + 5 + 6 * chN a b 1189) ⟨g1.1, by rw [j_up_cell _ (by decide)]; exact g1.2.1, g1.2.2.1, fun i hi => by rw [j_up_cell _ (by decide)]; exact g1.2.2.2 i hi⟩ ⟨g3, hch, Nat.le_refl _⟩ g4 (by rw [j_up_own, if_pos rfl])
  obtain ⟨I4, n1, n2, n3⟩ := copy_k (d := d + 6) (L := L1) (pa := some 38) (pb := some 49) (pu := some 49) (pw := pw) (I := I3)
  have hi2 : ∀ k, k ≠ 2 → k ≠ 24 → k ≠ 23 → k ≠ 25 → k ≠ 0 → I4 k = I1 k := fun k k1 k2 k3 k4 k5 => by rw [n1 k k1, m1 k k4, j_up_cell _ k5]; exact g5 k k2 k3
  have I42 : ∀ q, q < 1189 → I4 2 q = b q := fun q hq => by rw [n2 q hq, m1 4 (by decide), j_up_cell _ (by decide), g5 4 (by decide) (by decide)]; exact I14 q hq
  have kp : kpT 49 b I4 := ⟨n, I, L, some 38, some 49, pu, pw, I1, L1, d + 6, 3, hn, h888, kw, by omega, Or.inr ⟨rfl, hm.1⟩, p1, fun c c1 c2 => hi2 c (by omega) (by omega) (by omega) (by omega) (by omega)⟩
  have hr2 : rCst J2 := rCst_eq1 hr1 (fun c hc c6 => g7 c hc (by omega) (by omega) (by omega))
  obtain ⟨J3, L3', r1, r2, r3, r4, r5⟩ := kp.ref49 (J := J2) (L' := L1') (e := e + 6) g12 hr2 (by omega)
  rw [jgo_some (d := d + 6) rfl c1, show jv (e + 7) 230 77 [some (.ref 0), some (.int (-1)), some (.int 0), some (.int (-2)), some (.int 0), some (.int 0)] [] (shR, J1, L1', pR) = _ from c2, B230_274, jgo_some (d := e + 6) rfl r1]
  dsimp only [Option.toList_some, Option.toList_none, List.cons_append, List.nil_append]
  rw [B185_98_g38, if_neg (by decide), show I2 0 8 = nI c by rw [g5 0 (by decide) (by decide)]; exact i08, show nI c + 1 = nI (c + 1) from nI_add c 1, show I1 23 1 = nI s from hl1.2.1, jgo_some (d := d + 6) rfl m3, B230_282]
  dsimp only [Option.toList_some, Option.toList_none, List.cons_append, List.nil_append]
  rw [B185_119_g38, jgo_some (d := d + 6) rfl n3]
  dsimp only [Option.toList_some, Option.toList_none, List.cons_append, List.nil_append]
  rw [B185_130_g38, pX_ab]
  have c187 : jv (d + 6) 187 0 [some (.ref 0)] [] (shC, I4, L1, pX (some 49) (some 38) (some 49) pw) = some (none, (shC, j_up (j_up (j_up (j_up (j_up (j_up I4 60 2 0) 83 0 0) 96 0 0) 107 0 0) 107 1 0) 116 10 0, L1, pX (some 49) (some 38) (some 49) pw)) := by
    rw [B187_0, if_pos (by decide), if_pos (by decide), if_pos (by decide), if_pos (by decide), if_pos (by decide), if_pos (by decide)]
  have c249 : jv (e + 6) 249 0 [some (.ref 0)] [] (shR, J3, L3', pR) = some (none, (shR, j_up (j_up (j_up (j_up (j_up J3 0 59 0) 0 87 0) 0 103 0) 0 107 0) 0 120 0, L3', pR)) := by
    rw [B249_0, if_pos (by decide), if_pos (by decide), if_pos (by decide), if_pos (by decide), if_pos (by decide)]
  rw [jgo_some (d := d + 6) rfl c187, jgo_some (d := e + 6) rfl c249]
  dsimp only [Option.toList_some, Option.toList_none, List.cons_append, List.nil_append]
  rw [B185_152_x49, B230_287]
  have ei : ∀ k, k ≠ 60 → k ≠ 83 → k ≠ 96 → k ≠ 107 → k ≠ 116 → j_up (j_up (j_up (j_up (j_up (j_up I4 60 2 0) 83 0 0) 96 0 0) 107 0 0) 107 1 0) 116 10 0 k = I4 k := fun k k1 k2 k3 k4 k5 => by rw [j_up_cell _ k5, j_up_cell _ k4, j_up_cell _ k4, j_up_cell _ k3, j_up_cell _ k2, j_up_cell _ k1]
  have ej : ∀ k, k ≠ 0 → j_up (j_up (j_up (j_up (j_up J3 0 59 0) 0 87 0) 0 103 0) 0 107 0) 0 120 0 k = J3 k := fun k k0 => by rw [j_up_cell _ k0, j_up_cell _ k0, j_up_cell _ k0, j_up_cell _ k0, j_up_cell _ k0]
  have e0 : ∀ q, q ≠ 59 → q ≠ 87 → q ≠ 103 → q ≠ 107 → q ≠ 120 → j_up (j_up (j_up (j_up (j_up J3 0 59 0) 0 87 0) 0 103 0) 0 107 0) 0 120 0 0 q = J3 0 q := fun q q1 q2 q3 q4 q5 => by rw [j_up_own, if_neg q5, j_up_own, if_neg q4, j_up_own, if_neg q3, j_up_own, if_neg q2, j_up_own, if_neg q1]
  have i40 : ∀ f, f ≠ 8 → I4 0 f = I 0 f := fun f hf => by rw [n1 0 (by decide), m1 0 (by decide), j_up_own, if_neg hf, g5 0 (by decide) (by decide), fr.1 0 (by decide) (by decide)]
  have i48 : I4 0 8 = nI (c + 1) := by rw [n1 0 (by decide), m1 0 (by decide), j_up_own, if_pos rfl]
  have j315 : J3 0 15 = nI (c + 1) := by rw [r4 15 (by decide)]; exact g9
  have x8 : j_up (j_up (j_up (j_up (j_up (j_up I4 60 2 0) 83 0 0) 96 0 0) 107 0 0) 107 1 0) 116 10 0 0 8 = nI (c + 1) := by rw [ei 0 (by decide) (by decide) (by decide) (by decide) (by decide)]; exact i48
  have x15 : j_up (j_up (j_up (j_up (j_up J3 0 59 0) 0 87 0) 0 103 0) 0 107 0) 0 120 0 0 15 = nI (c + 1) := by rw [e0 15 (by decide) (by decide) (by decide) (by decide) (by decide)]; exact j315
  have x9 : j_up (j_up (j_up (j_up (j_up (j_up I4 60 2 0) 83 0 0) 96 0 0) 107 0 0) 107 1 0) 116 10 0 0 9 = 0 := by rw [ei 0 (by decide) (by decide) (by decide) (by decide) (by decide), i40 9 (by decide)]; exact h9
  rw [x8, x15]
  refine jW2_some ⟨_, L1, _, L3', nI (c + 1), some 49, rfl, rfl, rfl, fr.2.1, fun c hc => (r5 c hc).trans (fr.2.2.2.2 c hc), ⟨?_, ?_⟩, Or.inr ⟨rfl, rfl, ?_, ?_, ?_, ?_, ⟨F', ⟨g1.1, ?_, ?_, ?_⟩, g2, g3, g4⟩, ?_, x8, x15, ⟨?_, ?_, ?_, ?_, ?_, ?_⟩, ⟨?_, ?_, ?_, ?_, ?_⟩, ?_, ?_, ⟨?_, ?_, ?_, ?_, ?_⟩, ?_, ?_⟩⟩
  · rw [x9, e0 21 (by decide) (by decide) (by decide) (by decide) (by decide), r4 21 (by decide)]; exact g10.symm
  · rw [if_pos x9, e0 22 (by decide) (by decide) (by decide) (by decide) (by decide), r4 22 (by decide)]; exact g11.symm
  · exact r2.congr (fun c c1 c2 => ei c (by omega) (by omega) (by omega) (by omega) (by omega)) (fun q hq => e0 q (by omega) (by omega) (by omega) (by omega) (by omega)) (fun c c1 c2 => ej c (by omega)) (fun _ _ => rfl)
  · exact kp.congr (fun c c1 c2 => ei c (by omega) (by omega) (by omega) (by omega) (by omega)) (fun _ _ => rfl)
  · intro q hq; rw [ei 2 (by decide) (by decide) (by decide) (by decide) (by decide)]; exact I42 q hq
  · intro q hq; rw [ej 6 (by decide), r3 6 (by decide) (by decide)]; exact g12 q hq
  · rw [ei 23 (by decide) (by decide) (by decide) (by decide) (by decide), n1 23 (by decide), m1 23 (by decide), j_up_cell _ (by decide)]; exact g1.2.1
  · rw [e0 17 (by decide) (by decide) (by decide) (by decide) (by decide), r4 17 (by decide)]; exact g1.2.2.1
  · intro i hi
    rw [ei 24 (by decide) (by decide) (by decide) (by decide) (by decide), n1 24 (by decide), m1 24 (by decide), j_up_cell _ (by decide), ej 16 (by decide), r3 16 (by decide) (by decide)]; exact g1.2.2.2 i hi
  · intro r hr'
    rw [ei 25 (by decide) (by decide) (by decide) (by decide) (by decide), n1 25 (by decide), ej 15 (by decide), r3 15 (by decide) (by decide)]
    refine mkR.uniq m2 g13 (fun r hr => ?_) r hr'
    rw [j_up_cell _ (by decide), g5 25 (by decide) (by decide), fr.1 25 (by decide) (by decide), fr.2.2.1 15 (by decide) (by decide)]; exact h25 r hr
  · rw [j_up_cell _ (by decide), j_up_cell _ (by decide), j_up_cell _ (by decide), j_up_cell _ (by decide), j_up_cell _ (by decide), j_up_own, if_pos rfl]
  · rw [j_up_cell _ (by decide), j_up_cell _ (by decide), j_up_cell _ (by decide), j_up_cell _ (by decide), j_up_own, if_pos rfl]
  · rw [j_up_cell _ (by decide), j_up_cell _ (by decide), j_up_cell _ (by decide), j_up_own, if_pos rfl]
  · rw [j_up_cell _ (by decide), j_up_own, if_neg (by decide), j_up_own, if_pos rfl]
  · rw [j_up_cell _ (by decide), j_up_own, if_pos rfl]
  · rw [j_up_own, if_pos rfl]
  · rw [j_up_own, if_neg (by decide), j_up_own, if_neg (by decide), j_up_own, if_neg (by decide), j_up_own, if_neg (by decide), j_up_own, if_pos rfl]
  · rw [j_up_own, if_neg (by decide), j_up_own, if_neg (by decide), j_up_own, if_neg (by decide), j_up_own, if_pos rfl]
  · rw [j_up_own, if_neg (by decide), j_up_own, if_neg (by decide), j_up_own, if_pos rfl]
  · rw [j_up_own, if_neg (by decide), j_up_own, if_pos rfl]
  · rw [j_up_own, if_pos rfl]
  · intro k k1 k2 k3 k4 k5 k6 k7 k8 k9 k10 k11 k12
    rw [ei k k8 k9 k10 k11 k12, hi2 k k2 k4 k3 k5 k1]; exact fr.1 k k6 k7
  · intro f hf
    rw [ei 0 (by decide) (by decide) (by decide) (by decide) (by decide)]; exact i40 f hf
  · intro f hf
    rw [j_up_cell _ (by decide), j_up_cell _ (by decide), j_up_cell _ (by decide), j_up_cell _ (by decide), j_up_cell _ (by decide), j_up_own, if_neg hf, hi2 60 (by decide) (by decide) (by decide) (by decide) (by decide), fr.1 60 (by decide) (by decide)]
  · intro f hf
    rw [j_up_cell _ (by decide), j_up_cell _ (by decide), j_up_cell _ (by decide), j_up_cell _ (by decide), j_up_own, if_neg hf, j_up_cell _ (by decide), hi2 83 (by decide) (by decide) (by decide) (by decide) (by decide), fr.1 83 (by decide) (by decide)]
  · intro f hf
    rw [j_up_cell _ (by decide), j_up_cell _ (by decide), j_up_cell _ (by decide), j_up_own, if_neg hf, j_up_cell _ (by decide), j_up_cell _ (by decide), hi2 96 (by decide) (by decide) (by decide) (by decide) (by decide), fr.1 96 (by decide) (by decide)]
  · intro f hf hf1
    rw [j_up_cell _ (by decide), j_up_own, if_neg hf1, j_up_own, if_neg hf, j_up_cell _ (by decide), j_up_cell _ (by decide), j_up_cell _ (by decide), hi2 107 (by decide) (by decide) (by decide) (by decide) (by decide), fr.1 107 (by decide) (by decide)]
  · intro f hf
    rw [j_up_own, if_neg hf, j_up_cell _ (by decide), j_up_cell _ (by decide), j_up_cell _ (by decide), j_up_cell _ (by decide), j_up_cell _ (by decide), hi2 116 (by decide) (by decide) (by decide) (by decide) (by decide), fr.1 116 (by decide) (by decide)]
  · intro k k1 k2 k3 k4 k5
    rw [ej k k1, r3 k k1 k5, g7 k k1 k2 k3 k4]; exact fr.2.2.1 k k1 k5
  · intro q q1 q2 q3 q4 q5 q6 q7 q8 q9 q10
    rw [e0 q q6 q7 q8 q9 q10, r4 q q5, g8 q q1 q2 q3 q4]; exact fr.2.2.2.1 q q5
theorem settle_sim49 {a b F : Nat → Int32} {c s : Nat} (hd : 160 ≤ d) (he : 160 ≤ e) (hm : mT b I J) (hI2 : ∀ q, q < 1189 → I 2 q = a q) (hJ6 : ∀ q, q < 1189 → J 6 q = a q) (hk : kpT 49 a I) (kw : kwS L) (h8 : I 0 8 = nI c) (h15 : J 0 15 = nI c) (hl : lgR s F I J) (h25 : ∀ r, r < 148 → I 25 r = J 15 r) (h9 : I 0 9 = 0) : jW2 (jv d 185 0 [some (.ref 0), none, none, none] [] (shC, I, L, pX (some 49) (some 38) pu pw)) (jv e 230 0 [some (.ref 0), none, none, none, none, none] [] (shR, J, L', pR)) (stQ 49 38 a b c s F I L J L' pw) := by
  obtain ⟨d, rfl⟩ : ∃ d', d = d' + 7 := ⟨d - 7, by omega⟩
  obtain ⟨e, rfl⟩ : ∃ e', e = e' + 7 := ⟨e - 7, by omega⟩
  have hr : rCst J := hm.2.2.2
  obtain ⟨n, hn, h888⟩ := (hm.2.2.1 888 (by decide)).2 rfl
  -- the second one reads the kept text again
  have again : ∀ (J2 : Nat → Nat → Int32) (L2' : Nat → Nat → Int64), rCst J2 → (∀ q, q < 1189 → J2 6 q = a q) → ∃ J3 L3', jv (e + 6) 261 0 [some (.ref 0), some (.ref 6)] [] (shR, J2, L2', pR) = some (some (.int 1), (shR, J3, L3', pR)) ∧ prG 49 I J3 L3' ∧ rFr J2 J3 L2' L3' := fun J2 L2' h1 h2 => hk.ref49 h2 h1 (by omega)
  rw [B185_0_g49, B230_0]
  rcases fault_u (d := d) (e := e) (L := L) (L' := L') (pa := some 49) (pb := some 38) (pu := pu) (pw := pw) hm with ⟨w, hw, f1, f2⟩ | ⟨hpl, f1, f2⟩
  · -- a row that is not right
    obtain ⟨J3, L3', r1, r2, r3, r4, r5⟩ := again J L' hr hJ6
    rw [jgo_some (d := d + 6) rfl f1, jgo_some (d := e + 6) rfl f2]
    dsimp only [Option.toList_some, Option.toList_none, List.cons_append, List.nil_append]
    rw [B185_7_g49, if_neg (nI_pos (by omega)), B230_8, if_neg (show ¬ nI w = (147 : Int32) from fun z => by have := (nI_eq (b := 147) (by omega) (by decide)).mp z; omega), B230_24, if_neg (show ¬ nI w = (147 : Int32) from fun z => by have := (nI_eq (b := 147) (by omega) (by decide)).mp z; omega), B230_41, if_neg (nI_pos (by omega)), jgo_some (d := e + 6) rfl r1]
    dsimp only [Option.toList_some, Option.toList_none, List.cons_append, List.nil_append]
    rw [B230_54]
    refine jW2_some ⟨I, L, _, L3', -300 - nI w, pu, rfl, rfl, rfl, fun _ _ => rfl, r5, ⟨?_, ?_⟩, Or.inl ⟨nI_m300 w (by omega), rfl, ?_, fun _ _ _ _ => rfl, fun _ _ _ => rfl, ?_, ?_⟩⟩
    · rw [j_up_own, if_neg (by decide), j_up_own, if_pos rfl]; exact h9
    · rw [if_pos h9, j_up_own, if_pos rfl]
    · exact r2.congr (fun _ _ _ => rfl) (fun q hq => by rw [j_up_own, if_neg (by omega), j_up_own, if_neg (by omega)]) (fun c c1 c2 => by rw [j_up_cell _ (by omega), j_up_cell _ (by omega)]) (fun _ _ => rfl)
    · intro k k1 k2
      rw [j_up_cell _ k1, j_up_cell _ k1]; exact r3 k k1 k2
    · intro q q1 q2 q3
      rw [j_up_own, if_neg q2, j_up_own, if_neg q1]; exact r4 q q3
  -- the text on trial
  obtain ⟨v, S, w, S', p1, p2, I1, L1, J1, L1', x, rfl, rfl, rfl, rfl, fr, z⟩ := parse_sim38_3 (d := d + 6) (e := e + 4) (L := L) (L' := L') (pa := some 49) (pb := some 38) (pu := pu) (pw := pw) (by omega) (by omega) hn h888 hm.1 hm.2.1 hr kw
  have hr1 : rCst J1 := rCst_eq1 hr (fun c hc c6 => fr.2.2.1 c hc (by omega))
  have J16 : ∀ q, q < 1189 → J1 6 q = a q := fun q hq => by rw [fr.2.2.1 6 (by decide) (by decide)]; exact hJ6 q hq
  rw [jgo_some (d := d + 6) rfl f1]
  dsimp only [Option.toList_some, Option.toList_none, List.cons_append, List.nil_append]
  rw [B185_7_g49, if_pos (by decide), jgo_some (d := d + 6) rfl p1]
  dsimp only [Option.toList_some, Option.toList_none, List.cons_append, List.nil_append]
  rw [B185_33_g49]
  rcases z with ⟨rfl, pg, z0, z29⟩ | ⟨rfl, zb⟩
  case inr =>
    have e242 : jv (e + 6) 242 0 [some (.ref 0), some (.ref 7), none, none] [] (shR, J, L', pR) = some (some (.int 147), (shR, J1, L1', pR)) := by
      rw [f2, rules_r hr hr1 (Or.inl rfl) p2, if_pos rfl]
    obtain ⟨J3, L3', r1, r2, r3, r4, r5⟩ := again J1 L1' hr1 J16
    obtain ⟨f, p, y1, y2, y3, y4, y5, y6⟩ := zb
    rw [if_pos rfl, if_pos (by decide), jgo_some (d := e + 6) rfl e242]
    dsimp only [Option.toList_some, Option.toList_none, List.cons_append, List.nil_append]
    rw [B230_8, if_pos rfl, B230_24, if_pos rfl, B230_41, if_neg (by decide), jgo_some (d := e + 6) rfl r1]
    dsimp only [Option.toList_some, Option.toList_none, List.cons_append, List.nil_append]
    rw [B230_54]
    have nf : nI f ≠ 0 := fun z => by have := (nI_eq (b := 0) (by omega) (by decide)).mp z; omega
    refine jW2_some ⟨_, L1, _, L3', -300 - 147, some 38, rfl, rfl, rfl, fr.2.1, fun c hc => (r5 c hc).trans (fr.2.2.2.2 c hc), ⟨?_, ?_⟩, Or.inl ⟨by decide, rfl, ?_, ?_, ?_, ?_, ?_⟩⟩
    · rw [j_up_own, if_neg (by decide), j_up_own, if_pos rfl, j_up_own, if_neg (by decide), j_up_own, if_pos rfl, y3, y5]
    · rw [show j_up (j_up I1 0 9 (I1 27 0)) 0 10 (j_up I1 0 9 (I1 27 0) 27 1) 0 9 = nI f by rw [j_up_own, if_neg (by decide), j_up_own, if_pos rfl]; exact y3, if_neg nf, j_up_own, if_pos rfl, j_up_cell _ (by decide), y4, j_up_own, if_pos rfl, y6]
    · exact r2.congr (fun c c1 c2 => by rw [j_up_cell _ (by omega), j_up_cell _ (by omega)]; exact fr.1 c (by omega) (by omega)) (fun q hq => by rw [j_up_own, if_neg (by omega), j_up_own, if_neg (by omega)]) (fun c c1 c2 => by rw [j_up_cell _ (by omega), j_up_cell _ (by omega)]) (fun _ _ => rfl)
    · intro k k1 k2 k3
      rw [j_up_cell _ k1, j_up_cell _ k1]; exact fr.1 k k2 k3
    · intro f f1 f2
      rw [j_up_own, if_neg f2, j_up_own, if_neg f1, fr.1 0 (by decide) (by decide)]
    · intro k k1 k2
      rw [j_up_cell _ k1, j_up_cell _ k1, r3 k k1 k2]; exact fr.2.2.1 k k1 k2
    · intro q q1 q2 q3
      rw [j_up_own, if_neg q2, j_up_own, if_neg q1, r4 q q3]; exact fr.2.2.2.1 q q3
  have e242 : jv (e + 6) 242 0 [some (.ref 0), some (.ref 7), none, none] [] (shR, J, L', pR) = some (some (.int (-1)), (shR, J1, L1', pR)) := by
    rw [f2, rules_r hr hr1 (Or.inr rfl) p2, if_neg (by decide)]
  have i08 : I1 0 8 = nI c := by rw [fr.1 0 (by decide) (by decide)]; exact h8
  have i231 : I1 23 = I 23 := fr.1 23 (by decide) (by decide)
  have hl1 : lgR s F I1 J1 := ⟨hl.1, by rw [i231]; exact hl.2.1, by rw [fr.2.2.2.1 17 (by decide)]; exact hl.2.2.1, fun i hi => by rw [fr.1 24 (by decide) (by decide), fr.2.2.1 16 (by decide) (by decide)]; exact hl.2.2.2 i hi⟩
  have I12 : ∀ q, q < 1189 → I1 2 q = a q := fun q hq => by rw [fr.1 2 (by decide) (by decide)]; exact hI2 q hq
  have I14 : ∀ q, q < 1189 → I1 4 q = b q := fun q hq => by rw [fr.1 4 (by decide) (by decide)]; exact hm.1 q hq
  have J17 : ∀ q, q < 1189 → J1 7 q = b q := fun q hq => by rw [fr.2.2.1 7 (by decide) (by decide)]; exact hm.2.1 q hq
  have j015 : J1 0 15 = nI c := by rw [fr.2.2.2.1 15 (by decide)]; exact h15
  rw [if_neg (by decide), i08, show nI c + 1 = nI (c + 1) from nI_add c 1, jgo_some (d := e + 6) rfl e242]
  dsimp only [Option.toList_some, Option.toList_none, List.cons_append, List.nil_append]
  rw [B230_8, if_neg (by decide), B230_24, if_neg (by decide), B230_41, if_pos (by decide)]
  rcases rec_sim (d := d + 4) (e := e + 5) (L := L1) (L' := L1') (pa := some 49) (pb := some 38) (pu := some 38) (pw := pw) hr1 I12 I14 J16 J17 j015 hl1 (-1) 0 (-2) with ⟨hbig, c1, l4, l5, c2⟩ | ⟨hsm, F', I2, J2, l4, l5, g1, g2, g3, g4, g5, g6, g7, g8, g9, g10, g11, g12, g13, c1, c2⟩
  · -- no room in the log
    have J26 : ∀ q, q < 1189 → j_up (j_up J1 0 21 0) 0 22 (-2) 6 q = a q := fun q hq => by rw [j_up_cell _ (by decide), j_up_cell _ (by decide)]; exact J16 q hq
    obtain ⟨J3, L3', r1, r2, r3, r4, r5⟩ := again (j_up (j_up J1 0 21 0) 0 22 (-2)) L1' (rCst_eq1 hr1 (fun c hc _ => by rw [j_up_cell _ hc, j_up_cell _ hc])) J26
    rw [jgo_some (d := d + 6) rfl c1, show jv (e + 7) 230 77 [some (.ref 0), some (.int (-1)), some (.int 0), some (.int (-2)), some (.int 0), some (.int 0)] [] (shR, J1, L1', pR) = _ from c2, jgo_some (d := e + 6) rfl r1]
    dsimp only [Option.toList_some, Option.toList_none, List.cons_append, List.nil_append]
    rw [B185_98_g49, if_pos rfl, B230_154]
    have i09 : I1 0 9 = 0 := by rw [fr.1 0 (by decide) (by decide)]; exact h9
    refine jW2_some ⟨I1, L1, J3, L3', -4, some 38, rfl, rfl, rfl, fr.2.1, fun c hc => (r5 c hc).trans (fr.2.2.2.2 c hc), ⟨?_, ?_⟩, Or.inl ⟨by decide, rfl, ?_, ?_, ?_, ?_, ?_⟩⟩
    · rw [r4 21 (by decide), j_up_own, if_neg (by decide), j_up_own, if_pos rfl]; exact i09
    · rw [if_pos i09, r4 22 (by decide), j_up_own, if_pos rfl]
    · exact r2.congr (fun c c1 c2 => fr.1 c (by omega) (by omega)) (fun _ _ => rfl) (fun _ _ _ => rfl) (fun _ _ => rfl)
    · exact fun k k1 k2 k3 => fr.1 k k2 k3
    · exact fun f f1 f2 => by rw [fr.1 0 (by decide) (by decide)]
    · intro k k1 k2
      rw [r3 k k1 k2, j_up_cell _ k1, j_up_cell _ k1]; exact fr.2.2.1 k k1 k2
    · intro q q1 q2 q3
      rw [r4 q q3, j_up_own, if_neg q2, j_up_own, if_neg q1]; exact fr.2.2.2.1 q q3
  -- taken
  have hch : chN a b 1189 ≤ 1189 := chN_le a b 1189
  obtain ⟨I3, m1, m2, m3⟩ := mark_c (d := d + 2) (L := L1) (pa := some 49) (pb := some 38) (pu := some 38) (pw := pw) (I := j_up I2 0 8 (nI (c + 1))) (J := J2) (a := a) (b := b) (s := s) (c := c + 1) (F := F') (z := s + 5 + 6 * chN a b 1189) ⟨g1.1, by rw [j_up_cell _ (by decide)]; exact g1.2.1, g1.2.2.1, fun i hi => by rw [j_up_cell _ (by decide)]; exact g1.2.2.2 i hi⟩ ⟨g3, hch, Nat.le_refl _⟩ g4 (by rw [j_up_own, if_pos rfl])
  obtain ⟨I4, n1, n2, n3⟩ := copy_k (d := d + 6) (L := L1) (pa := some 49) (pb := some 38) (pu := some 38) (pw := pw) (I := I3)
  have hi2 : ∀ k, k ≠ 2 → k ≠ 24 → k ≠ 23 → k ≠ 25 → k ≠ 0 → I4 k = I1 k := fun k k1 k2 k3 k4 k5 => by rw [n1 k k1, m1 k k4, j_up_cell _ k5]; exact g5 k k2 k3
  have I42 : ∀ q, q < 1189 → I4 2 q = b q := fun q hq => by rw [n2 q hq, m1 4 (by decide), j_up_cell _ (by decide), g5 4 (by decide) (by decide)]; exact I14 q hq
  have kp : kpT 38 b I4 := ⟨n, I, L, some 49, some 38, pu, pw, I1, L1, d + 6, 3, hn, h888, kw, by omega, Or.inr ⟨rfl, hm.1⟩, p1, fun c c1 c2 => hi2 c (by omega) (by omega) (by omega) (by omega) (by omega)⟩
  have hr2 : rCst J2 := rCst_eq1 hr1 (fun c hc c6 => g7 c hc (by omega) (by omega) (by omega))
  obtain ⟨J3, L3', r1, r2, r3, r4, r5⟩ := kp.ref38 (J := J2) (L' := L1') (e := e + 6) g12 hr2 (by omega)
  rw [jgo_some (d := d + 6) rfl c1, show jv (e + 7) 230 77 [some (.ref 0), some (.int (-1)), some (.int 0), some (.int (-2)), some (.int 0), some (.int 0)] [] (shR, J1, L1', pR) = _ from c2, B230_274, jgo_some (d := e + 6) rfl r1]
  dsimp only [Option.toList_some, Option.toList_none, List.cons_append, List.nil_append]
  rw [B185_98_g49, if_neg (by decide), show I2 0 8 = nI c by rw [g5 0 (by decide) (by decide)]; exact i08, show nI c + 1 = nI (c + 1) from nI_add c 1, show I1 23 1 = nI s from hl1.2.1, jgo_some (d := d + 6) rfl m3, B230_282]
  dsimp only [Option.toList_some, Option.toList_none, List.cons_append, List.nil_append]
  rw [B185_119_g49, jgo_some (d := d + 6) rfl n3]
  dsimp only [Option.toList_some, Option.toList_none, List.cons_append, List.nil_append]
  rw [B185_130_g49, pX_ab]
  have c187 : jv (d + 6) 187 0 [some (.ref 0)] [] (shC, I4, L1, pX (some 38) (some 49) (some 38) pw) = some (none, (shC, j_up (j_up (j_up (j_up (j_up (j_up I4 60 2 0) 83 0 0) 96 0 0) 107 0 0) 107 1 0) 116 10 0, L1, pX (some 38) (some 49) (some 38) pw)) := by
    rw [B187_0, if_pos (by decide), if_pos (by decide), if_pos (by decide), if_pos (by decide), if_pos (by decide), if_pos (by decide)]
  have c249 : jv (e + 6) 249 0 [some (.ref 0)] [] (shR, J3, L3', pR) = some (none, (shR, j_up (j_up (j_up (j_up (j_up J3 0 59 0) 0 87 0) 0 103 0) 0 107 0) 0 120 0, L3', pR)) := by
    rw [B249_0, if_pos (by decide), if_pos (by decide), if_pos (by decide), if_pos (by decide), if_pos (by decide)]
  rw [jgo_some (d := d + 6) rfl c187, jgo_some (d := e + 6) rfl c249]
  dsimp only [Option.toList_some, Option.toList_none, List.cons_append, List.nil_append]
  rw [B185_152_x38, B230_287]
  have ei : ∀ k, k ≠ 60 → k ≠ 83 → k ≠ 96 → k ≠ 107 → k ≠ 116 → j_up (j_up (j_up (j_up (j_up (j_up I4 60 2 0) 83 0 0) 96 0 0) 107 0 0) 107 1 0) 116 10 0 k = I4 k := fun k k1 k2 k3 k4 k5 => by rw [j_up_cell _ k5, j_up_cell _ k4, j_up_cell _ k4, j_up_cell _ k3, j_up_cell _ k2, j_up_cell _ k1]
  have ej : ∀ k, k ≠ 0 → j_up (j_up (j_up (j_up (j_up J3 0 59 0) 0 87 0) 0 103 0) 0 107 0) 0 120 0 k = J3 k := fun k k0 => by rw [j_up_cell _ k0, j_up_cell _ k0, j_up_cell _ k0, j_up_cell _ k0, j_up_cell _ k0]
  have e0 : ∀ q, q ≠ 59 → q ≠ 87 → q ≠ 103 → q ≠ 107 → q ≠ 120 → j_up (j_up (j_up (j_up (j_up J3 0 59 0) 0 87 0) 0 103 0) 0 107 0) 0 120 0 0 q = J3 0 q := fun q q1 q2 q3 q4 q5 => by rw [j_up_own, if_neg q5, j_up_own, if_neg q4, j_up_own, if_neg q3, j_up_own, if_neg q2, j_up_own, if_neg q1]
  have i40 : ∀ f, f ≠ 8 → I4 0 f = I 0 f := fun f hf => by rw [n1 0 (by decide), m1 0 (by decide), j_up_own, if_neg hf, g5 0 (by decide) (by decide), fr.1 0 (by decide) (by decide)]
  have i48 : I4 0 8 = nI (c + 1) := by rw [n1 0 (by decide), m1 0 (by decide), j_up_own, if_pos rfl]
  have j315 : J3 0 15 = nI (c + 1) := by rw [r4 15 (by decide)]; exact g9
  have x8 : j_up (j_up (j_up (j_up (j_up (j_up I4 60 2 0) 83 0 0) 96 0 0) 107 0 0) 107 1 0) 116 10 0 0 8 = nI (c + 1) := by rw [ei 0 (by decide) (by decide) (by decide) (by decide) (by decide)]; exact i48
  have x15 : j_up (j_up (j_up (j_up (j_up J3 0 59 0) 0 87 0) 0 103 0) 0 107 0) 0 120 0 0 15 = nI (c + 1) := by rw [e0 15 (by decide) (by decide) (by decide) (by decide) (by decide)]; exact j315
  have x9 : j_up (j_up (j_up (j_up (j_up (j_up I4 60 2 0) 83 0 0) 96 0 0) 107 0 0) 107 1 0) 116 10 0 0 9 = 0 := by rw [ei 0 (by decide) (by decide) (by decide) (by decide) (by decide), i40 9 (by decide)]; exact h9
  rw [x8, x15]
  refine jW2_some ⟨_, L1, _, L3', nI (c + 1), some 38, rfl, rfl, rfl, fr.2.1, fun c hc => (r5 c hc).trans (fr.2.2.2.2 c hc), ⟨?_, ?_⟩, Or.inr ⟨rfl, rfl, ?_, ?_, ?_, ?_, ⟨F', ⟨g1.1, ?_, ?_, ?_⟩, g2, g3, g4⟩, ?_, x8, x15, ⟨?_, ?_, ?_, ?_, ?_, ?_⟩, ⟨?_, ?_, ?_, ?_, ?_⟩, ?_, ?_, ⟨?_, ?_, ?_, ?_, ?_⟩, ?_, ?_⟩⟩
  · rw [x9, e0 21 (by decide) (by decide) (by decide) (by decide) (by decide), r4 21 (by decide)]; exact g10.symm
  · rw [if_pos x9, e0 22 (by decide) (by decide) (by decide) (by decide) (by decide), r4 22 (by decide)]; exact g11.symm
  · exact r2.congr (fun c c1 c2 => ei c (by omega) (by omega) (by omega) (by omega) (by omega)) (fun q hq => e0 q (by omega) (by omega) (by omega) (by omega) (by omega)) (fun c c1 c2 => ej c (by omega)) (fun _ _ => rfl)
  · exact kp.congr (fun c c1 c2 => ei c (by omega) (by omega) (by omega) (by omega) (by omega)) (fun _ _ => rfl)
  · intro q hq; rw [ei 2 (by decide) (by decide) (by decide) (by decide) (by decide)]; exact I42 q hq
  · intro q hq; rw [ej 6 (by decide), r3 6 (by decide) (by decide)]; exact g12 q hq
  · rw [ei 23 (by decide) (by decide) (by decide) (by decide) (by decide), n1 23 (by decide), m1 23 (by decide), j_up_cell _ (by decide)]; exact g1.2.1
  · rw [e0 17 (by decide) (by decide) (by decide) (by decide) (by decide), r4 17 (by decide)]; exact g1.2.2.1
  · intro i hi
    rw [ei 24 (by decide) (by decide) (by decide) (by decide) (by decide), n1 24 (by decide), m1 24 (by decide), j_up_cell _ (by decide), ej 16 (by decide), r3 16 (by decide) (by decide)]; exact g1.2.2.2 i hi
  · intro r hr'
    rw [ei 25 (by decide) (by decide) (by decide) (by decide) (by decide), n1 25 (by decide), ej 15 (by decide), r3 15 (by decide) (by decide)]
    refine mkR.uniq m2 g13 (fun r hr => ?_) r hr'
    rw [j_up_cell _ (by decide), g5 25 (by decide) (by decide), fr.1 25 (by decide) (by decide), fr.2.2.1 15 (by decide) (by decide)]; exact h25 r hr
  · rw [j_up_cell _ (by decide), j_up_cell _ (by decide), j_up_cell _ (by decide), j_up_cell _ (by decide), j_up_cell _ (by decide), j_up_own, if_pos rfl]
  · rw [j_up_cell _ (by decide), j_up_cell _ (by decide), j_up_cell _ (by decide), j_up_cell _ (by decide), j_up_own, if_pos rfl]
  · rw [j_up_cell _ (by decide), j_up_cell _ (by decide), j_up_cell _ (by decide), j_up_own, if_pos rfl]
  · rw [j_up_cell _ (by decide), j_up_own, if_neg (by decide), j_up_own, if_pos rfl]
  · rw [j_up_cell _ (by decide), j_up_own, if_pos rfl]
  · rw [j_up_own, if_pos rfl]
  · rw [j_up_own, if_neg (by decide), j_up_own, if_neg (by decide), j_up_own, if_neg (by decide), j_up_own, if_neg (by decide), j_up_own, if_pos rfl]
  · rw [j_up_own, if_neg (by decide), j_up_own, if_neg (by decide), j_up_own, if_neg (by decide), j_up_own, if_pos rfl]
  · rw [j_up_own, if_neg (by decide), j_up_own, if_neg (by decide), j_up_own, if_pos rfl]
  · rw [j_up_own, if_neg (by decide), j_up_own, if_pos rfl]
  · rw [j_up_own, if_pos rfl]
  · intro k k1 k2 k3 k4 k5 k6 k7 k8 k9 k10 k11 k12
    rw [ei k k8 k9 k10 k11 k12, hi2 k k2 k4 k3 k5 k1]; exact fr.1 k k6 k7
  · intro f hf
    rw [ei 0 (by decide) (by decide) (by decide) (by decide) (by decide)]; exact i40 f hf
  · intro f hf
    rw [j_up_cell _ (by decide), j_up_cell _ (by decide), j_up_cell _ (by decide), j_up_cell _ (by decide), j_up_cell _ (by decide), j_up_own, if_neg hf, hi2 60 (by decide) (by decide) (by decide) (by decide) (by decide), fr.1 60 (by decide) (by decide)]
  · intro f hf
    rw [j_up_cell _ (by decide), j_up_cell _ (by decide), j_up_cell _ (by decide), j_up_cell _ (by decide), j_up_own, if_neg hf, j_up_cell _ (by decide), hi2 83 (by decide) (by decide) (by decide) (by decide) (by decide), fr.1 83 (by decide) (by decide)]
  · intro f hf
    rw [j_up_cell _ (by decide), j_up_cell _ (by decide), j_up_cell _ (by decide), j_up_own, if_neg hf, j_up_cell _ (by decide), j_up_cell _ (by decide), hi2 96 (by decide) (by decide) (by decide) (by decide) (by decide), fr.1 96 (by decide) (by decide)]
  · intro f hf hf1
    rw [j_up_cell _ (by decide), j_up_own, if_neg hf1, j_up_own, if_neg hf, j_up_cell _ (by decide), j_up_cell _ (by decide), j_up_cell _ (by decide), hi2 107 (by decide) (by decide) (by decide) (by decide) (by decide), fr.1 107 (by decide) (by decide)]
  · intro f hf
    rw [j_up_own, if_neg hf, j_up_cell _ (by decide), j_up_cell _ (by decide), j_up_cell _ (by decide), j_up_cell _ (by decide), j_up_cell _ (by decide), hi2 116 (by decide) (by decide) (by decide) (by decide) (by decide), fr.1 116 (by decide) (by decide)]
  · intro k k1 k2 k3 k4 k5
    rw [ej k k1, r3 k k1 k5, g7 k k1 k2 k3 k4]; exact fr.2.2.1 k k1 k5
  · intro q q1 q2 q3 q4 q5 q6 q7 q8 q9 q10
    rw [e0 q q6 q7 q8 q9 q10, r4 q q5, g8 q q1 q2 q3 q4]; exact fr.2.2.2.1 q q5
end CRSB
