/-! REOPEN: what is whole in the log, in both -/
section REOA
variable {d e : Nat} {L L' : Nat → Nat → Int64} {pa pb pu pw : Option Nat}
/-- the record from s on is not whole -/
def rcN (F : Nat → Int32) (s z : Nat) : Prop := s ≤ z ∧ (z < s + 4 ∨ ∃ n, n ≤ 1189 ∧ nmV F (s + 2) 2 = nI n ∧ z < s + 5 + 6 * n)
theorem endN_c {I J : Nat → Nat → Int32} {F : Nat → Int32} {z s : Nat} (hl : lgR z F I J) (hn : rcN F s z) : jv (d + 2) 44 0 [some (.ref 23), some (.int (nI s)), none] [] (shC, I, L, pX pa pb pu pw) = some (some (.int (-1)), (shC, I, L, pX pa pb pu pw)) := by
  obtain ⟨h0, h1⟩ := hn
  have hz := hl.1
  rw [B44_0, if_neg (nI_pos (by omega)), hl.2.1, show nI s + 4 = nI (s + 4) from nI_add s 4]
  by_cases q : z < s + 4
  · rw [if_pos (nI_lt q (by omega)), B44_14]
  · obtain ⟨n, n1, n2, n3⟩ := h1.resolve_left q
    have e1 : nI (s + 4) + nI n * 6 + 1 = nI (s + 5 + 6 * n) := by
      rw [show nI n * 6 = nI (n * 6) from nI_mul _ 6, nI_add, nI_1]
      congr 1
      omega
    rw [if_neg (nI_nlt (by omega) (by omega)), show nI s + 2 = nI (s + 2) from nI_add s 2, show (2 : Int32) = nI 2 from rfl, jgo_some rfl (num_c hl (by omega)), n2]
    dsimp only [Option.toList_some, List.cons_append, List.nil_append]
    rw [B44_27, hl.2.1, e1, if_pos (nI_lt n3 (by omega)), B44_47]
theorem whlN_r {I J : Nat → Nat → Int32} {F : Nat → Int32} {z s : Nat} (hl : lgR z F I J) (hn : rcN F s z) : jv (e + 1) 240 0 [some (.ref 0), some (.int (nI s))] [] (shR, J, L', pR) = some (some (.int 0), (shR, J, L', pR)) := by
  obtain ⟨h0, h1⟩ := hn
  have hz := hl.1
  rw [B240_0, hl.2.2.1, show nI s + 5 = nI (s + 5) from nI_add s 5]
  by_cases q : z < s + 5
  · rw [if_pos (nI_lt q (by omega)), B240_36, B240_37, if_pos bl_0]
  · obtain ⟨n, n1, n2, n3⟩ := h1.resolve_left (by omega)
    have e1 : nI (s + 5) + 6 * nI n = nI (s + 5 + 6 * n) := by rw [show 6 * nI n = nI (6 * n) from nI_mul 6 _, nI_add]
    rw [if_neg (nI_nlt (by omega) (by omega)), show nI s + 2 = nI (s + 2) from nI_add s 2, show (2 : Int32) = nI 2 from rfl, jgo_some rfl (num_r hl (by omega)), n2]
    dsimp only [Option.toList_some, List.cons_append, List.nil_append]
    rw [B240_23, hl.2.2.1, e1, if_pos (nI_lt n3 (by omega)), B240_36, B240_37, if_pos bl_0]
theorem whlY_r {I J : Nat → Nat → Int32} {F : Nat → Int32} {z s n : Nat} (hl : lgR z F I J) (hw : rcW F s n z) : jv (e + 1) 240 0 [some (.ref 0), some (.int (nI s))] [] (shR, J, L', pR) = some (some (.int 1), (shR, J, L', pR)) := by
  obtain ⟨n2, n1, n3⟩ := hw
  have hz := hl.1
  have e1 : nI (s + 5) + 6 * nI n = nI (s + 5 + 6 * n) := by rw [show 6 * nI n = nI (6 * n) from nI_mul 6 _, nI_add]
  rw [B240_0, hl.2.2.1, show nI s + 5 = nI (s + 5) from nI_add s 5, if_neg (nI_nlt (by omega) (by omega)), show nI s + 2 = nI (s + 2) from nI_add s 2, show (2 : Int32) = nI 2 from rfl, jgo_some rfl (num_r hl (by omega)), n2]
  dsimp only [Option.toList_some, List.cons_append, List.nil_append]
  rw [B240_23, hl.2.2.1, e1, if_neg (nI_nlt (by omega) (by omega)), B240_37, if_pos bl_1]
/-- the reference's rows of a record -/
theorem mark_r {I J : Nat → Nat → Int32} {F a b : Nat → Int32} {z s c : Nat} (hl : lgR z F I J) (hw : rcW F s (chN a b 1189) z) (hp : recP F s a b 1189) (hr : rCst J) (h15 : J 0 15 = nI c) : ∃ J', (∀ k, k ≠ 15 → J' k = J k) ∧ mkR a b 1189 c (J 15) (J' 15) ∧ jv (e + 1) 239 81 [some (.ref 0), some (.int (nI s)), some (.int (nI (chN a b 1189))), some (.int (nI 0))] [] (shR, J, L', pR) = jv (e + 1) 239 81 [some (.ref 0), some (.int (nI s)), some (.int (nI (chN a b 1189))), some (.int (nI (chN a b 1189)))] [] (shR, J', L', pR) := by
  have hn := chN_le a b 1189
  obtain ⟨w1, w2, w3⟩ := hw
  have hz := hl.1
  obtain ⟨J', ⟨a1, a2⟩, a3⟩ := j_runP (α := Nat → Nat → Int32) (fun i J1 => jv (e + 1) 239 81 [some (.ref 0), some (.int (nI s)), some (.int (nI (chN a b 1189))), some (.int (nI i))] [] (shR, J1, L', pR)) (fun i J1 => (∀ k, k ≠ 15 → J1 k = J k) ∧ ∀ r, r < 148 → ((∃ y, y < 1189 ∧ a y ≠ b y ∧ chN a b y < i ∧ rowN.getD y 0 = r) → J1 15 r = nI c) ∧ (¬ (∃ y, y < 1189 ∧ a y ≠ b y ∧ chN a b y < i ∧ rowN.getD y 0 = r) → J1 15 r = J 15 r)) (chN a b 1189) (fun i hi J1 hJ => by
    obtain ⟨b1, b2⟩ := hJ
    try dsimp only
    have hl1 : lgR z F I J1 := ⟨hl.1, hl.2.1, by rw [b1 0 (by decide)]; exact hl.2.2.1, fun j hj => by rw [b1 16 (by decide)]; exact hl.2.2.2 j hj⟩
    obtain ⟨y, y1, y2, y3⟩ := chN_ex hi
    have rl := rowN_lt y y1
    have n2 := num_r (e := e) (L' := L') (a := s + 4 + 6 * i) (k := 2) hl1 (by omega)
    have pl := (hp y y1 y2).1
    rw [y3] at pl
    rw [pl] at n2
    have j5 : J1 5 y = nI (rowN.getD y 0) := by rw [b1 5 (by decide)]; exact hr.2.2.2.2 y y1
    have e1 : nI s + 4 + 6 * nI i = nI (s + 4 + 6 * i) := by rw [show nI s + 4 = nI (s + 4) from nI_add s 4, show 6 * nI i = nI (6 * i) from nI_mul 6 i, nI_add]
    rw [B239_81, if_pos (nI_lt hi (by omega)), e1, show (2 : Int32) = nI 2 from rfl, jgo_some rfl n2]
    dsimp only [Option.toList_some, List.cons_append, List.nil_append]
    rw [B239_107, if_pos (j_in_nI y1 (by decide)), nI_clamp (n := y) (by omega), j5, if_pos (j_in_nI rl (by decide)), nI_clamp (n := rowN.getD y 0) (by omega), b1 0 (by decide), h15, nI_1]
    refine ⟨_, ⟨fun k hk => by rw [j_up_cell _ hk, b1 k hk], fun r hr' => ?_⟩, rfl⟩
    rw [j_up_own]
    have iff_ : (∃ y, y < 1189 ∧ a y ≠ b y ∧ chN a b y < i + 1 ∧ rowN.getD y 0 = r) ↔ (∃ y, y < 1189 ∧ a y ≠ b y ∧ chN a b y < i ∧ rowN.getD y 0 = r) ∨ r = rowN.getD y 0 := by
      constructor
      · rintro ⟨x, x1, x2, x3, x4⟩
        by_cases q : chN a b x < i
        · exact Or.inl ⟨x, x1, x2, q, x4⟩
        · refine Or.inr ?_
          have e1 : x = y := by
            rcases Nat.lt_trichotomy x y with w | w | w
            · have := chN_lt w x2; omega
            · exact w
            · have := chN_lt w y2; omega
          rw [← x4, e1]
      · rintro (⟨x, x1, x2, x3, x4⟩ | w)
        · exact ⟨x, x1, x2, by omega, x4⟩
        · exact ⟨y, y1, y2, by omega, w.symm⟩
    rw [iff_]
    by_cases q : r = rowN.getD y 0
    · rw [if_pos q]
      exact ⟨fun _ => rfl, fun w => absurd (Or.inr q) w⟩
    · rw [if_neg q]
      exact ⟨fun w => (b2 r hr').1 (w.resolve_right q), fun w => (b2 r hr').2 (fun v => w (Or.inl v))⟩) J ⟨fun _ _ => rfl, fun r hr' => ⟨fun ⟨y, _, _, h3, _⟩ => absurd h3 (Nat.not_lt_zero _), fun _ => rfl⟩⟩
  refine ⟨J', a1, fun r hr' => ?_, a3⟩
  have iff_ : (∃ y, y < 1189 ∧ a y ≠ b y ∧ chN a b y < chN a b 1189 ∧ rowN.getD y 0 = r) ↔ chR a b 1189 r := by
    constructor
    · rintro ⟨y, y1, y2, y3, y4⟩
      exact ⟨y, y1, y2, y4⟩
    · rintro ⟨y, y1, y2, y4⟩
      exact ⟨y, y1, y2, chN_lt y1 y2, y4⟩
  rw [← iff_]
  exact a2 r hr'
theorem mkR_eq {a b g g' h h' : Nat → Int32} {x c : Nat} (h1 : mkR a b x c g g') (h2 : mkR a b x c h h') (h3 : ∀ r, r < 148 → g r = h r) : ∀ r, r < 148 → g' r = h' r := by
  intro r hr
  rcases Classical.em (chR a b x r) with w | w
  · rw [(h1 r hr).1 w, (h2 r hr).1 w]
  · rw [(h1 r hr).2 w, (h2 r hr).2 w, h3 r hr]
theorem reo_38 {F : Nat → Int32} {cms z : Nat} {M : Nat → Nat → Int32} {s : Nat → Nat} (hw : lgW F cms M s) (hz : z ≤ s cms) : ∀ (r j : Nat) (I J : Nat → Nat → Int32) (o3 q2 q3 : Option Value), j + r = cms → s j ≤ z → lgR z F I J → rCst J → (∀ q, q < 1189 → I 2 q = M j q) → (∀ q, q < 1189 → J 6 q = M j q) → (∀ t, t < 148 → I 25 t = J 15 t) → I 0 8 = nI j → J 0 15 = nI j → ∃ j0 I' J' l2 p3 m2 m3, j0 ≤ cms ∧ s j0 ≤ z ∧ (∀ q, q < 1189 → I' 2 q = M j0 q) ∧ (∀ q, q < 1189 → J' 6 q = M j0 q) ∧ (∀ t, t < 148 → I' 25 t = J' 15 t) ∧ I' 0 8 = nI j0 ∧ J' 0 15 = nI j0 ∧ (∀ c, c ≠ 0 → c ≠ 2 → c ≠ 25 → I' c = I c) ∧ (∀ f, f ≠ 8 → I' 0 f = I 0 f) ∧ (∀ c, c ≠ 0 → c ≠ 6 → c ≠ 15 → J' c = J c) ∧ (∀ g, g ≠ 15 → J' 0 g = J 0 g) ∧ jv (d + 5) 182 34 [some (.ref 0), some (.int (nI (s j))), some (.int (nI j)), o3] [] (shC, I, L, pX (some 38) pb pu pw) = jv (d + 5) 182 91 [some (.ref 0), some (.int (nI (s j0))), some (.int l2), p3] [] (shC, I', L, pX (some 38) pb pu pw) ∧ jv (e + 2) 239 52 [some (.ref 0), some (.int (nI (s j))), q2, q3] [] (shR, J, L', pR) = jgo jTT jMM (e + 2) 261 [.ref 0, .ref 6] (shR, j_up J' 0 17 (nI (s j0)), L', pR) (fun v S => jv (e + 2) 239 145 [some (.ref 0), some (.int (nI (s j0))), m2, m3] (v.toList ++ []) S) := by
  have five : ∀ j, j ≤ cms → 5 * j ≤ s j := by
    intro j
    induction j with
    | zero => intro _; exact Nat.zero_le _
    | succ j ih =>
      intro h
      have g1 := (hw.2.1 j (by omega)).1
      have g2 := ih (by omega)
      omega
  have stop : ∀ (j : Nat) (I J : Nat → Nat → Int32) (o3 q2 q3 : Option Value), j ≤ cms → s j ≤ z → lgR z F I J → rcN F (s j) z → (∀ q, q < 1189 → I 2 q = M j q) → (∀ q, q < 1189 → J 6 q = M j q) → (∀ t, t < 148 → I 25 t = J 15 t) → I 0 8 = nI j → J 0 15 = nI j → ∃ j0 I' J' l2 p3 m2 m3, j0 ≤ cms ∧ s j0 ≤ z ∧ (∀ q, q < 1189 → I' 2 q = M j0 q) ∧ (∀ q, q < 1189 → J' 6 q = M j0 q) ∧ (∀ t, t < 148 → I' 25 t = J' 15 t) ∧ I' 0 8 = nI j0 ∧ J' 0 15 = nI j0 ∧ (∀ c, c ≠ 0 → c ≠ 2 → c ≠ 25 → I' c = I c) ∧ (∀ f, f ≠ 8 → I' 0 f = I 0 f) ∧ (∀ c, c ≠ 0 → c ≠ 6 → c ≠ 15 → J' c = J c) ∧ (∀ g, g ≠ 15 → J' 0 g = J 0 g) ∧ jv (d + 5) 182 34 [some (.ref 0), some (.int (nI (s j))), some (.int (nI j)), o3] [] (shC, I, L, pX (some 38) pb pu pw) = jv (d + 5) 182 91 [some (.ref 0), some (.int (nI (s j0))), some (.int l2), p3] [] (shC, I', L, pX (some 38) pb pu pw) ∧ jv (e + 2) 239 52 [some (.ref 0), some (.int (nI (s j))), q2, q3] [] (shR, J, L', pR) = jgo jTT jMM (e + 2) 261 [.ref 0, .ref 6] (shR, j_up J' 0 17 (nI (s j0)), L', pR) (fun v S => jv (e + 2) 239 145 [some (.ref 0), some (.int (nI (s j0))), m2, m3] (v.toList ++ []) S) := by
    intro j I J o3 q2 q3 hj hs hl hN h2 h6 h25 h8 h15
    have h5 := five j hj
    have hz4 := hl.1
    refine ⟨j, I, J, nI j, some (.int (-1)), q2, q3, hj, hs, h2, h6, h25, h8, h15, fun _ _ _ _ => rfl, fun _ _ => rfl, fun _ _ _ _ => rfl, fun _ _ => rfl, ?_, ?_⟩
    · rw [B182_34_g38, if_pos (show nI j < 40000 from nI_lt (b := 40000) (by omega) (by decide)), jgo_some rfl (endN_c (d := d + 2) hl hN)]
      dsimp only [Option.toList_some, List.cons_append, List.nil_append]
      rw [B182_48_g38, if_pos (by decide)]
    · rw [B239_52, jgo_some rfl (whlN_r (e := e) hl hN)]
      dsimp only [Option.toList_some, List.cons_append, List.nil_append]
      rw [B239_57, if_pos rfl]
  intro r
  induction r with
  | zero =>
    intro j I J o3 q2 q3 hj hs hl hr h2 h6 h25 h8 h15
    have ej : j = cms := by omega
    exact stop j I J o3 q2 q3 (by omega) hs hl ⟨hs, Or.inl (by rw [ej]; omega)⟩ h2 h6 h25 h8 h15
  | succ r ih =>
    intro j I J o3 q2 q3 hj hs hl hr h2 h6 h25 h8 h15
    obtain ⟨g1, g2, g3⟩ := hw.2.1 j (by omega)
    have h5 := five j (by omega)
    have hz4 := hl.1
    have hn := chN_le (M j) (M (j + 1)) 1189
    by_cases q : s (j + 1) ≤ z
    · have hrc : rcW F (s j) (chN (M j) (M (j + 1)) 1189) z := ⟨g2, hn, by omega⟩
      have eC := end_c (d := d + 2) (L := L) (pa := some 38) (pb := pb) (pu := pu) (pw := pw) hl hrc
      rw [← g1] at eC
      -- class: commits, play, mark
      have hlA : lgR z F (j_up I 0 8 (nI (j + 1))) J := ⟨hl.1, by rw [j_up_cell _ (by decide)]; exact hl.2.1, hl.2.2.1, fun i hi => by rw [j_up_cell _ (by decide)]; exact hl.2.2.2 i hi⟩
      obtain ⟨I1, a1, a2, a3⟩ := play1_c (d := d) (L := L) (pa := some 38) (pb := pb) (pu := pu) (pw := pw) hlA hrc g3
      have hlB : lgR z F I1 J := ⟨hl.1, by rw [a1 23 (by decide)]; exact hlA.2.1, hl.2.2.1, fun i hi => by rw [a1 24 (by decide)]; exact hlA.2.2.2 i hi⟩
      have i8 : I1 0 8 = nI (j + 1) := by rw [a1 0 (by decide), j_up_self]
      obtain ⟨I2, b1, b2, b3⟩ := mark_c (d := d) (L := L) (pa := some 38) (pb := pb) (pu := pu) (pw := pw) hlB hrc g3 i8
      -- reference: commits, rows, replay
      have hlC : lgR z F I (j_up J 0 15 (nI (j + 1))) := ⟨hl.1, hl.2.1, by rw [j_up_own, if_neg (by decide)]; exact hl.2.2.1, fun i hi => by rw [j_up_cell _ (by decide)]; exact hl.2.2.2 i hi⟩
      have hrC : rCst (j_up J 0 15 (nI (j + 1))) := rCst_eq1 hr (fun c hc _ => j_up_cell _ hc _ _)
      obtain ⟨J1, c1, c2, c3⟩ := mark_r (e := e + 1) (L' := L') (c := j + 1) hlC hrc g3 hrC (j_up_self _ _ _ _)
      have hlD : lgR z F I J1 := ⟨hl.1, hl.2.1, by rw [c1 0 (by decide)]; exact hlC.2.2.1, fun i hi => by rw [c1 16 (by decide)]; exact hlC.2.2.2 i hi⟩
      obtain ⟨J2, d1, d2, d3⟩ := replay6_r (e := e) (L' := L') hlD hrc g3
      rw [← g1] at d3
      have n2 := num_r (e := e + 1) (L' := L') (a := s j + 2) (k := 2) hl (by have := hrc.2.2; omega)
      rw [g2] at n2
      have hlE : lgR z F I2 J2 := ⟨hl.1, by rw [b1 23 (by decide)]; exact hlB.2.1, by rw [d1 0 (by decide)]; exact hlD.2.2.1, fun i hi => by rw [b1 24 (by decide), d1 16 (by decide)]; exact ⟨(hlB.2.2.2 i hi).1, (hlD.2.2.2 i hi).2⟩⟩
      have m2 : ∀ q, q < 1189 → I2 2 q = M (j + 1) q := by
        intro y hy
        rw [b1 2 (by decide)]
        exact pyR_end a2 (fun x hx => by rw [j_up_cell _ (by decide)]; exact h2 x hx) y hy
      have m6 : ∀ q, q < 1189 → J2 6 q = M (j + 1) q := pyR_end d2 (fun x hx => by rw [c1 6 (by decide), j_up_cell _ (by decide)]; exact h6 x hx)
      have m25 : ∀ t, t < 148 → I2 25 t = J2 15 t := by
        intro t ht
        rw [d1 15 (by decide)]
        refine mkR_eq b2 c2 (fun t ht => ?_) t ht
        rw [a1 25 (by decide), j_up_cell _ (by decide), j_up_cell _ (by decide)]
        exact h25 t ht
      obtain ⟨j0, I', J', l2, p3, x2, x3, e1, e2, e3, e4, e5, e6, e7, e8, e9, e10, e11, e12, e13⟩ := ih (j + 1) I2 J2 (some (.int (nI (s (j + 1))))) (some (.int (nI (chN (M j) (M (j + 1)) 1189)))) (some (.int (nI (chN (M j) (M (j + 1)) 1189)))) (by omega) q hlE (rCst_eq1 hrC (fun c hc _ => by rw [d1 c (by omega), c1 c (by omega)])) m2 m6 m25 (by rw [b1 0 (by decide), i8]) (by rw [d1 0 (by decide), c1 0 (by decide), j_up_self])
      refine ⟨j0, I', J', l2, p3, x2, x3, e1, e2, e3, e4, e5, e6, e7, fun c y1 y2 y3 => ?_, fun f y1 => ?_, fun c y1 y2 y3 => ?_, fun g y1 => ?_, ?_, ?_⟩
      · rw [e8 c y1 y2 y3, b1 c y3, a1 c y2, j_up_cell _ y1]
      · rw [e9 f y1, b1 0 (by decide), a1 0 (by decide), j_up_own, if_neg y1]
      · rw [e10 c y1 y2 y3, d1 c y2, c1 c y3, j_up_cell _ y1]
      · rw [e11 g y1, d1 0 (by decide), c1 0 (by decide), j_up_own, if_neg y1]
      · rw [B182_34_g38, if_pos (show nI j < 40000 from nI_lt (b := 40000) (by omega) (by decide)), jgo_some rfl eC]
        dsimp only [Option.toList_some, List.cons_append, List.nil_append]
        rw [B182_48_g38, if_neg (nI_pos (by omega)), h8, nI_1, jgo_some rfl a3]
        dsimp only [Option.toList_none, List.nil_append]
        rw [B182_78_g38, jgo_some rfl b3]
        dsimp only [Option.toList_none, List.nil_append]
        rw [B182_83_g38, nI_1]
        exact e12
      · rw [B239_52, jgo_some rfl (whlY_r (e := e) hl hrc)]
        dsimp only [Option.toList_some, List.cons_append, List.nil_append]
        rw [B239_57, if_neg (by decide), show nI (s j) + 2 = nI (s j + 2) from nI_add _ 2, show (2 : Int32) = nI 2 from rfl, jgo_some rfl n2]
        dsimp only [Option.toList_some, List.cons_append, List.nil_append]
        rw [B239_68, h15, nI_1]
        refine (show _ = _ from c3).trans ?_
        rw [B239_81, if_neg (nI_nlt (Nat.le_refl _) (by omega)), jgo_some rfl d3]
        dsimp only [Option.toList_some, List.cons_append, List.nil_append]
        rw [B239_128]
        exact e13
    · exact stop j I J o3 q2 q3 (by omega) hs hl ⟨hs, Or.inr ⟨_, hn, g2, by omega⟩⟩ h2 h6 h25 h8 h15
theorem reo_49 {F : Nat → Int32} {cms z : Nat} {M : Nat → Nat → Int32} {s : Nat → Nat} (hw : lgW F cms M s) (hz : z ≤ s cms) : ∀ (r j : Nat) (I J : Nat → Nat → Int32) (o3 q2 q3 : Option Value), j + r = cms → s j ≤ z → lgR z F I J → rCst J → (∀ q, q < 1189 → I 2 q = M j q) → (∀ q, q < 1189 → J 6 q = M j q) → (∀ t, t < 148 → I 25 t = J 15 t) → I 0 8 = nI j → J 0 15 = nI j → ∃ j0 I' J' l2 p3 m2 m3, j0 ≤ cms ∧ s j0 ≤ z ∧ (∀ q, q < 1189 → I' 2 q = M j0 q) ∧ (∀ q, q < 1189 → J' 6 q = M j0 q) ∧ (∀ t, t < 148 → I' 25 t = J' 15 t) ∧ I' 0 8 = nI j0 ∧ J' 0 15 = nI j0 ∧ (∀ c, c ≠ 0 → c ≠ 2 → c ≠ 25 → I' c = I c) ∧ (∀ f, f ≠ 8 → I' 0 f = I 0 f) ∧ (∀ c, c ≠ 0 → c ≠ 6 → c ≠ 15 → J' c = J c) ∧ (∀ g, g ≠ 15 → J' 0 g = J 0 g) ∧ jv (d + 5) 182 34 [some (.ref 0), some (.int (nI (s j))), some (.int (nI j)), o3] [] (shC, I, L, pX (some 49) pb pu pw) = jv (d + 5) 182 91 [some (.ref 0), some (.int (nI (s j0))), some (.int l2), p3] [] (shC, I', L, pX (some 49) pb pu pw) ∧ jv (e + 2) 239 52 [some (.ref 0), some (.int (nI (s j))), q2, q3] [] (shR, J, L', pR) = jgo jTT jMM (e + 2) 261 [.ref 0, .ref 6] (shR, j_up J' 0 17 (nI (s j0)), L', pR) (fun v S => jv (e + 2) 239 145 [some (.ref 0), some (.int (nI (s j0))), m2, m3] (v.toList ++ []) S) := by
  have five : ∀ j, j ≤ cms → 5 * j ≤ s j := by
    intro j
    induction j with
    | zero => intro _; exact Nat.zero_le _
    | succ j ih =>
      intro h
      have g1 := (hw.2.1 j (by omega)).1
      have g2 := ih (by omega)
      omega
  have stop : ∀ (j : Nat) (I J : Nat → Nat → Int32) (o3 q2 q3 : Option Value), j ≤ cms → s j ≤ z → lgR z F I J → rcN F (s j) z → (∀ q, q < 1189 → I 2 q = M j q) → (∀ q, q < 1189 → J 6 q = M j q) → (∀ t, t < 148 → I 25 t = J 15 t) → I 0 8 = nI j → J 0 15 = nI j → ∃ j0 I' J' l2 p3 m2 m3, j0 ≤ cms ∧ s j0 ≤ z ∧ (∀ q, q < 1189 → I' 2 q = M j0 q) ∧ (∀ q, q < 1189 → J' 6 q = M j0 q) ∧ (∀ t, t < 148 → I' 25 t = J' 15 t) ∧ I' 0 8 = nI j0 ∧ J' 0 15 = nI j0 ∧ (∀ c, c ≠ 0 → c ≠ 2 → c ≠ 25 → I' c = I c) ∧ (∀ f, f ≠ 8 → I' 0 f = I 0 f) ∧ (∀ c, c ≠ 0 → c ≠ 6 → c ≠ 15 → J' c = J c) ∧ (∀ g, g ≠ 15 → J' 0 g = J 0 g) ∧ jv (d + 5) 182 34 [some (.ref 0), some (.int (nI (s j))), some (.int (nI j)), o3] [] (shC, I, L, pX (some 49) pb pu pw) = jv (d + 5) 182 91 [some (.ref 0), some (.int (nI (s j0))), some (.int l2), p3] [] (shC, I', L, pX (some 49) pb pu pw) ∧ jv (e + 2) 239 52 [some (.ref 0), some (.int (nI (s j))), q2, q3] [] (shR, J, L', pR) = jgo jTT jMM (e + 2) 261 [.ref 0, .ref 6] (shR, j_up J' 0 17 (nI (s j0)), L', pR) (fun v S => jv (e + 2) 239 145 [some (.ref 0), some (.int (nI (s j0))), m2, m3] (v.toList ++ []) S) := by
    intro j I J o3 q2 q3 hj hs hl hN h2 h6 h25 h8 h15
    have h5 := five j hj
    have hz4 := hl.1
    refine ⟨j, I, J, nI j, some (.int (-1)), q2, q3, hj, hs, h2, h6, h25, h8, h15, fun _ _ _ _ => rfl, fun _ _ => rfl, fun _ _ _ _ => rfl, fun _ _ => rfl, ?_, ?_⟩
    · rw [B182_34_g49, if_pos (show nI j < 40000 from nI_lt (b := 40000) (by omega) (by decide)), jgo_some rfl (endN_c (d := d + 2) hl hN)]
      dsimp only [Option.toList_some, List.cons_append, List.nil_append]
      rw [B182_48_g49, if_pos (by decide)]
    · rw [B239_52, jgo_some rfl (whlN_r (e := e) hl hN)]
      dsimp only [Option.toList_some, List.cons_append, List.nil_append]
      rw [B239_57, if_pos rfl]
  intro r
  induction r with
  | zero =>
    intro j I J o3 q2 q3 hj hs hl hr h2 h6 h25 h8 h15
    have ej : j = cms := by omega
    exact stop j I J o3 q2 q3 (by omega) hs hl ⟨hs, Or.inl (by rw [ej]; omega)⟩ h2 h6 h25 h8 h15
  | succ r ih =>
    intro j I J o3 q2 q3 hj hs hl hr h2 h6 h25 h8 h15
    obtain ⟨g1, g2, g3⟩ := hw.2.1 j (by omega)
    have h5 := five j (by omega)
    have hz4 := hl.1
    have hn := chN_le (M j) (M (j + 1)) 1189
    by_cases q : s (j + 1) ≤ z
    · have hrc : rcW F (s j) (chN (M j) (M (j + 1)) 1189) z := ⟨g2, hn, by omega⟩
      have eC := end_c (d := d + 2) (L := L) (pa := some 49) (pb := pb) (pu := pu) (pw := pw) hl hrc
      rw [← g1] at eC
      -- class: commits, play, mark
      have hlA : lgR z F (j_up I 0 8 (nI (j + 1))) J := ⟨hl.1, by rw [j_up_cell _ (by decide)]; exact hl.2.1, hl.2.2.1, fun i hi => by rw [j_up_cell _ (by decide)]; exact hl.2.2.2 i hi⟩
      obtain ⟨I1, a1, a2, a3⟩ := play1_c (d := d) (L := L) (pa := some 49) (pb := pb) (pu := pu) (pw := pw) hlA hrc g3
      have hlB : lgR z F I1 J := ⟨hl.1, by rw [a1 23 (by decide)]; exact hlA.2.1, hl.2.2.1, fun i hi => by rw [a1 24 (by decide)]; exact hlA.2.2.2 i hi⟩
      have i8 : I1 0 8 = nI (j + 1) := by rw [a1 0 (by decide), j_up_self]
      obtain ⟨I2, b1, b2, b3⟩ := mark_c (d := d) (L := L) (pa := some 49) (pb := pb) (pu := pu) (pw := pw) hlB hrc g3 i8
      -- reference: commits, rows, replay
      have hlC : lgR z F I (j_up J 0 15 (nI (j + 1))) := ⟨hl.1, hl.2.1, by rw [j_up_own, if_neg (by decide)]; exact hl.2.2.1, fun i hi => by rw [j_up_cell _ (by decide)]; exact hl.2.2.2 i hi⟩
      have hrC : rCst (j_up J 0 15 (nI (j + 1))) := rCst_eq1 hr (fun c hc _ => j_up_cell _ hc _ _)
      obtain ⟨J1, c1, c2, c3⟩ := mark_r (e := e + 1) (L' := L') (c := j + 1) hlC hrc g3 hrC (j_up_self _ _ _ _)
      have hlD : lgR z F I J1 := ⟨hl.1, hl.2.1, by rw [c1 0 (by decide)]; exact hlC.2.2.1, fun i hi => by rw [c1 16 (by decide)]; exact hlC.2.2.2 i hi⟩
      obtain ⟨J2, d1, d2, d3⟩ := replay6_r (e := e) (L' := L') hlD hrc g3
      rw [← g1] at d3
      have n2 := num_r (e := e + 1) (L' := L') (a := s j + 2) (k := 2) hl (by have := hrc.2.2; omega)
      rw [g2] at n2
      have hlE : lgR z F I2 J2 := ⟨hl.1, by rw [b1 23 (by decide)]; exact hlB.2.1, by rw [d1 0 (by decide)]; exact hlD.2.2.1, fun i hi => by rw [b1 24 (by decide), d1 16 (by decide)]; exact ⟨(hlB.2.2.2 i hi).1, (hlD.2.2.2 i hi).2⟩⟩
      have m2 : ∀ q, q < 1189 → I2 2 q = M (j + 1) q := by
        intro y hy
        rw [b1 2 (by decide)]
        exact pyR_end a2 (fun x hx => by rw [j_up_cell _ (by decide)]; exact h2 x hx) y hy
      have m6 : ∀ q, q < 1189 → J2 6 q = M (j + 1) q := pyR_end d2 (fun x hx => by rw [c1 6 (by decide), j_up_cell _ (by decide)]; exact h6 x hx)
      have m25 : ∀ t, t < 148 → I2 25 t = J2 15 t := by
        intro t ht
        rw [d1 15 (by decide)]
        refine mkR_eq b2 c2 (fun t ht => ?_) t ht
        rw [a1 25 (by decide), j_up_cell _ (by decide), j_up_cell _ (by decide)]
        exact h25 t ht
      obtain ⟨j0, I', J', l2, p3, x2, x3, e1, e2, e3, e4, e5, e6, e7, e8, e9, e10, e11, e12, e13⟩ := ih (j + 1) I2 J2 (some (.int (nI (s (j + 1))))) (some (.int (nI (chN (M j) (M (j + 1)) 1189)))) (some (.int (nI (chN (M j) (M (j + 1)) 1189)))) (by omega) q hlE (rCst_eq1 hrC (fun c hc _ => by rw [d1 c (by omega), c1 c (by omega)])) m2 m6 m25 (by rw [b1 0 (by decide), i8]) (by rw [d1 0 (by decide), c1 0 (by decide), j_up_self])
      refine ⟨j0, I', J', l2, p3, x2, x3, e1, e2, e3, e4, e5, e6, e7, fun c y1 y2 y3 => ?_, fun f y1 => ?_, fun c y1 y2 y3 => ?_, fun g y1 => ?_, ?_, ?_⟩
      · rw [e8 c y1 y2 y3, b1 c y3, a1 c y2, j_up_cell _ y1]
      · rw [e9 f y1, b1 0 (by decide), a1 0 (by decide), j_up_own, if_neg y1]
      · rw [e10 c y1 y2 y3, d1 c y2, c1 c y3, j_up_cell _ y1]
      · rw [e11 g y1, d1 0 (by decide), c1 0 (by decide), j_up_own, if_neg y1]
      · rw [B182_34_g49, if_pos (show nI j < 40000 from nI_lt (b := 40000) (by omega) (by decide)), jgo_some rfl eC]
        dsimp only [Option.toList_some, List.cons_append, List.nil_append]
        rw [B182_48_g49, if_neg (nI_pos (by omega)), h8, nI_1, jgo_some rfl a3]
        dsimp only [Option.toList_none, List.nil_append]
        rw [B182_78_g49, jgo_some rfl b3]
        dsimp only [Option.toList_none, List.nil_append]
        rw [B182_83_g49, nI_1]
        exact e12
      · rw [B239_52, jgo_some rfl (whlY_r (e := e) hl hrc)]
        dsimp only [Option.toList_some, List.cons_append, List.nil_append]
        rw [B239_57, if_neg (by decide), show nI (s j) + 2 = nI (s j + 2) from nI_add _ 2, show (2 : Int32) = nI 2 from rfl, jgo_some rfl n2]
        dsimp only [Option.toList_some, List.cons_append, List.nil_append]
        rw [B239_68, h15, nI_1]
        refine (show _ = _ from c3).trans ?_
        rw [B239_81, if_neg (nI_nlt (Nat.le_refl _) (by omega)), jgo_some rfl d3]
        dsimp only [Option.toList_some, List.cons_append, List.nil_append]
        rw [B239_128]
        exact e13
    · exact stop j I J o3 q2 q3 (by omega) hs hl ⟨hs, Or.inr ⟨_, hn, g2, by omega⟩⟩ h2 h6 h25 h8 h15
end REOA
