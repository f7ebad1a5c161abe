/-! SHEETS: the rests, both at one waiting cell -/
section SHEET5
variable {d e : Nat} {I J : Nat → Nat → Int32} {L L' : Nat → Nat → Int64} {pa pb pu pw : Option Nat} {K : Option Value → jS → jO} {w h : Nat} {o : Nat → Nat → Nat → Nat}
theorem rush_no {n v s mx yy xx : Nat} {X Y t0 t1 l2 l10 l11 l12 : Int32} {g : Nat → Nat} (H : shIn w h o I J) (F : flIn w h n g I J) (hs : s < 6) (hq : ∀ x y, x < w → y < h → X = nI x → Y = nI y → o s x y = 0 → ¬ g (64 * y + x) = 0) (hY : t0 + t1 = Y) (o14 : Option Value) : jv e 341 242 [some (.ref 0), some (.int (nI s)), some (.int l2), some (.int (nI w)), some (.int (nI h)), some (.int (nI v)), some (.int (nI mx)), some (.int (nI yy)), some (.int (nI xx)), some (.int (nI n)), some (.int (l10)), some (.int (l11)), some (.int (l12)), some (.int (X)), o14] [.int t1, .int t0] (shR, J, L', pR) = jv e 341 182 [some (.ref 0), some (.int (nI s)), some (.int l2), some (.int (nI w)), some (.int (nI h)), some (.int (nI v)), some (.int (nI mx)), some (.int (nI yy)), some (.int (nI xx)), some (.int (nI n)), some (.int (l10)), some (.int (l11)), some (.int (l12 + 1)), some (.int (X)), some (.int (Y))] [] (shR, J, L', pR) := by
  obtain ⟨h1, h2, h3, h4, h5, h6, h7, h8, h9, ha, hb⟩ := id H
  rw [B341_242, hY]
  by_cases q1 : X < 0
  · rw [if_pos q1, B341_339]
  rw [if_neg q1]
  by_cases q3 : Y < 0
  · rw [if_pos q3, B341_339]
  rw [if_neg q3]
  by_cases q2 : X < nI w
  · rw [if_pos q2]
    by_cases q4 : Y < nI h
    · rw [if_pos q4]
      obtain ⟨x, hx, rfl⟩ := i_small q1 q2 (by omega)
      obtain ⟨y, hy, rfl⟩ := i_small q3 q4 (by omega)
      have hp : 64 * y + x < 3072 := by omega
      have e1 : 3072 * nI s + 64 * nI y + nI x = nI (3072 * s + 64 * y + x) := by
        rw [show 3072 * nI s = nI (3072 * s) from nI_mul 3072 s, show 64 * nI y = nI (64 * y) from nI_mul 64 y, nI_add, nI_add]
      rw [e1, if_pos (j_in_nI (by omega) (by decide)), nI_clamp (n := 3072 * s + 64 * y + x) (by omega), h9 s hs x y (by omega) (by omega)]
      by_cases q6 : o s x y = 0
      · have hg := hq x y hx hy rfl rfl q6
        rw [if_pos (show nI (o s x y) = 0 by rw [q6]; rfl), yx_nI, if_pos (j_in_nI hp (by decide)), nI_clamp (n := 64 * y + x) (by omega), (F.2.2.1 _ hp).2.1, if_neg (show ¬ nI (g (64 * y + x)) = 0 from fun r => hg ((nI_eq (by have := (F.2.2.1 _ hp).2.2; omega) (b := 0) (by decide)).mp r)), B341_339]
      · rw [if_neg (show ¬ nI (o s x y) = 0 from fun r => q6 ((nI_eq (h7 s x y) (b := 0) (by decide)).mp r)), B341_339]
    · rw [if_neg q4, B341_339]
  · rw [if_neg q2, B341_339]
theorem rush_in {n v s mx yy xx x y : Nat} {t0 t1 l2 l10 l11 l12 : Int32} {g : Nat → Nat} (H : shIn w h o I J) (F : flIn w h n g I J) (hs : s < 6) (hx : x < w) (hy : y < h) (ho : o s x y = 0) (hg : g (64 * y + x) = 0) (hv : 0 < v) (hv2 : v ≤ 4000) (hY : t0 + t1 = nI y) (o14 : Option Value) : jv e 341 242 [some (.ref 0), some (.int (nI s)), some (.int l2), some (.int (nI w)), some (.int (nI h)), some (.int (nI v)), some (.int (nI mx)), some (.int (nI yy)), some (.int (nI xx)), some (.int (nI n)), some (.int (l10)), some (.int (l11)), some (.int (l12)), some (.int (nI x)), o14] [.int t1, .int t0] (shR, J, L', pR) = jv e 341 182 [some (.ref 0), some (.int (nI s)), some (.int l2), some (.int (nI w)), some (.int (nI h)), some (.int (nI v)), some (.int (nI mx)), some (.int (nI yy)), some (.int (nI xx)), some (.int (nI (n + 1))), some (.int (l10)), some (.int (l11)), some (.int (l12 + 1)), some (.int (nI x)), some (.int (nI y))] [] (shR, psR J (64 * y + x) n v, L', pR) := by
  obtain ⟨h1, h2, h3, h4, h5, h6, h7, h8, h9, ha, hb⟩ := id H
  have hn := (ps_fl F h1 h2 hx hy hg hv hv2).1
  have hp : 64 * y + x < 3072 := by omega
  have e1 : 3072 * nI s + 64 * nI y + nI x = nI (3072 * s + 64 * y + x) := by
    rw [show 3072 * nI s = nI (3072 * s) from nI_mul 3072 s, show 64 * nI y = nI (64 * y) from nI_mul 64 y, nI_add, nI_add]
  rw [B341_242, hY, if_neg (show ¬ nI x < 0 from nI_nlt (a := x) (b := 0) (by omega) (by omega)), if_neg (show ¬ nI y < 0 from nI_nlt (a := y) (b := 0) (by omega) (by omega)), if_pos (nI_lt hx (by omega)), if_pos (nI_lt hy (by omega)), e1, if_pos (j_in_nI (by omega) (by decide)), nI_clamp (n := 3072 * s + 64 * y + x) (by omega), h9 s hs x y (by omega) (by omega), if_pos (show nI (o s x y) = 0 by rw [ho]; rfl), yx_nI, if_pos (j_in_nI hp (by decide)), nI_clamp (n := 64 * y + x) (by omega), (F.2.2.1 _ hp).2.1, if_pos (show nI (g (64 * y + x)) = 0 by rw [hg]; rfl), if_pos (j_in_nI hp (by decide)), if_pos (j_in_nI hn (by decide)), nI_clamp (n := n) (by omega), nI_1 n, B341_339]
  rfl
/-- both look at one cell -/
def look (w h s v n : Nat) (X Y : Int32) (I J : Nat → Nat → Int32) (L L' : Nat → Nat → Int64) (pa pb pu pw : Option Nat) (n' : Nat) (I' J' : Nat → Nat → Int32) : Prop := (∀ d, jv (d + 1) 129 0 [some (.ref 83), some (.int (nI s)), some (.int X), some (.int Y), some (.int (nI n)), none] [] (shC, I, L, pX pa pb pu pw) = some (some (.int (nI n')), (shC, I', L, pX pa pb pu pw))) ∧ ∀ (e mx yy xx : Nat) (t0 t1 l2 l10 l11 l12 : Int32) (o14 : Option Value), t0 + t1 = Y → jv e 341 242 [some (.ref 0), some (.int (nI s)), some (.int l2), some (.int (nI w)), some (.int (nI h)), some (.int (nI v)), some (.int (nI mx)), some (.int (nI yy)), some (.int (nI xx)), some (.int (nI n)), some (.int (l10)), some (.int (l11)), some (.int (l12)), some (.int (X)), o14] [.int t1, .int t0] (shR, J, L', pR) = jv e 341 182 [some (.ref 0), some (.int (nI s)), some (.int l2), some (.int (nI w)), some (.int (nI h)), some (.int (nI v)), some (.int (nI mx)), some (.int (nI yy)), some (.int (nI xx)), some (.int (nI n')), some (.int (l10)), some (.int (l11)), some (.int (l12 + 1)), some (.int (X)), some (.int (Y))] [] (shR, J', L', pR)
theorem look_one {n v s : Nat} {g : Nat → Nat} (H : shIn w h o I J) (F : flIn w h n g I J) (hs : s < 6) (hv : 0 < v) (hv2 : v ≤ 4000) (X Y : Int32) (L L' : Nat → Nat → Int64) (pa pb pu pw : Option Nat) : ∃ n' g' I' J', n ≤ n' ∧ flIn w h n' g' I' J' ∧ frC I I' ∧ frR J J' ∧ look w h s v n X Y I J L L' pa pb pu pw n' I' J' := by
  obtain ⟨h1, h2, -⟩ := id H
  by_cases hc : ∃ x y, x < w ∧ y < h ∧ X = nI x ∧ Y = nI y ∧ o s x y = 0 ∧ g (64 * y + x) = 0
  · obtain ⟨x, y, hx, hy, rfl, rfl, ho, hg⟩ := hc
    exact ⟨n + 1, putN g (64 * y + x) v, psC I (64 * y + x) n, psR J (64 * y + x) n v, by omega, (ps_fl F h1 h2 hx hy hg hv hv2).2, psC_fr _ _ _, psR_fr _ _ _ _, fun d => push_in H F hs hx hy ho hg hv hv2, fun e mx yy xx t0 t1 l2 l10 l11 l12 o14 hY => rush_in H F hs hx hy ho hg hv hv2 hY o14⟩
  · have hq : ∀ x y, x < w → y < h → X = nI x → Y = nI y → o s x y = 0 → ¬ g (64 * y + x) = 0 := fun x y a1 a2 a3 a4 a5 a6 => hc ⟨x, y, a1, a2, a3, a4, a5, a6⟩
    exact ⟨n, g, I, J, Nat.le_refl _, F, fun c _ _ => rfl, fun c _ _ => rfl, fun d => push_no H F hs hq, fun e mx yy xx t0 t1 l2 l10 l11 l12 o14 hY => rush_no H F hs hq hY o14⟩
theorem four {n v s m : Nat} {g : Nat → Nat} (H : shIn w h o I J) (F : flIn w h n g I J) (hs : s < 6) (hv : 0 < v) (hv2 : v ≤ 4000) (hm : m < n) (L L' : Nat → Nat → Int64) (pa pb pu pw : Option Nat) : ∃ n' g' I' J', n ≤ n' ∧ flIn w h n' g' I' J' ∧ frC I I' ∧ frR J J' ∧ (∀ (d : Nat) (c2 : Int32) (o5 o6 : Option Value), ∃ z5 z6 : Option Value, jv (d + 2) 128 18 [some (.ref 83), some (.int (nI s)), some (.int c2), some (.int (nI n)), some (.int (nI m)), o5, o6] [] (shC, I, L, pX pa pb pu pw) = jv (d + 2) 128 18 [some (.ref 83), some (.int (nI s)), some (.int c2), some (.int (nI n')), some (.int (nI (m + 1))), z5, z6] [] (shC, I', L, pX pa pb pu pw)) ∧ ∀ (e mx yy xx : Nat) (l2 : Int32) (o11 o12 o13 o14 : Option Value), ∃ z11 z12 z13 z14 : Option Value, jv e 341 160 [some (.ref 0), some (.int (nI s)), some (.int l2), some (.int (nI w)), some (.int (nI h)), some (.int (nI v)), some (.int (nI mx)), some (.int (nI yy)), some (.int (nI xx)), some (.int (nI n)), some (.int (nI m)), o11, o12, o13, o14] [] (shR, J, L', pR) = jv e 341 160 [some (.ref 0), some (.int (nI s)), some (.int l2), some (.int (nI w)), some (.int (nI h)), some (.int (nI v)), some (.int (nI mx)), some (.int (nI yy)), some (.int (nI xx)), some (.int (nI n')), some (.int (nI (m + 1))), z11, z12, z13, z14] [] (shR, J', L', pR) := by
  obtain ⟨h1, h2, h3, h4, -⟩ := id H
  obtain ⟨x, y, hx, hy, ec, er⟩ := F.2.2.2 m hm
  have hn := F.2.1
  have hp : 64 * y + x < 3072 := by omega
  have ed : nI (64 * y + x) / 64 = nI y := by
    rw [show nI (64 * y + x) / 64 = nI ((64 * y + x) / 64) from nI_div (b := 64) (by omega) (by decide), show (64 * y + x) / 64 = y by omega]
  have em : nI (64 * y + x) - nI y * 64 = nI x := by
    rw [show nI y * 64 = nI (y * 64) from nI_mul y 64, nI_sub (by omega), show 64 * y + x - y * 64 = x by omega]
  have ax : nI x + 0 = nI x := nI_add x 0
  have ay : nI y + 0 = nI y := nI_add y 0
  obtain ⟨n1, g1, I1, J1, a1, a2, a3, a4, a5, a6⟩ := look_one H F hs hv hv2 (nI x + 1) (nI y) L L' pa pb pu pw
  have H1 := H.fr a3 a4
  obtain ⟨n2, g2, I2, J2, b1, b2, b3, b4, b5, b6⟩ := look_one H1 a2 hs hv hv2 (nI x - 1) (nI y) L L' pa pb pu pw
  have H2 := H1.fr b3 b4
  obtain ⟨n3, g3, I3, J3, c1, c2, c3, c4, c5, c6⟩ := look_one H2 b2 hs hv hv2 (nI x) (nI y + 1) L L' pa pb pu pw
  have H3 := H2.fr c3 c4
  obtain ⟨n4, g4, I4, J4, d1, d2, d3, d4, d5, d6⟩ := look_one H3 c2 hs hv hv2 (nI x) (nI y - 1) L L' pa pb pu pw
  refine ⟨n4, g4, I4, J4, by omega, d2, a3.tr (b3.tr (c3.tr d3)), a4.tr (b4.tr (c4.tr d4)), fun d k2 o5 o6 => ⟨some (.int (nI x)), some (.int (nI y)), ?_⟩, fun e mx yy xx l2 o11 o12 o13 o14 => ⟨some (.int (nI (64 * y + x))), some (.int 4), some (.int (nI x)), some (.int (nI y - 1)), ?_⟩⟩
  · rw [B128_18, if_pos (nI_lt hm (by omega)), if_pos (show nI m < 3072 from nI_lt (b := 3072) (by omega) (by decide)), if_pos (j_in_nI (by omega) (by decide)), if_neg (by decide), if_pos (j_in_nI (by omega) (by decide)), if_neg (by decide), nI_clamp (n := m) (by omega), ec, ed, em, jgo_some rfl (a5 d)]
    dsimp only [Option.toList_some, List.cons_append, List.nil_append]
    rw [B128_68, jgo_some rfl (b5 d)]
    dsimp only [Option.toList_some, List.cons_append, List.nil_append]
    rw [B128_81, jgo_some rfl (c5 d)]
    dsimp only [Option.toList_some, List.cons_append, List.nil_append]
    rw [B128_94, jgo_some rfl (d5 d)]
    dsimp only [Option.toList_some, List.cons_append, List.nil_append]
    rw [B128_107, nI_1 m]
  · have xm : nI x + (-1) = nI x - 1 := (Int32.sub_eq_add_neg _ _).symm
    have ym : nI y + (-1) = nI y - 1 := (Int32.sub_eq_add_neg _ _).symm
    rw [B341_160, if_pos (nI_lt hm (by omega)), if_pos (j_in_nI (by omega) (by decide)), nI_clamp (n := m) (by omega), er]
    rw [B341_182, if_pos (by decide), if_neg (by decide), if_pos rfl, ed, em, B341_213, if_neg (by decide), if_neg (by decide), if_neg (by decide), ed, a6 e mx yy xx _ _ _ _ _ _ _ ay]
    rw [i_add01, B341_182, if_pos (by decide), if_neg (by decide), if_neg (by decide), if_pos rfl, ed, em, B341_213, if_neg (by decide), if_neg (by decide), if_neg (by decide), ed, xm, b6 e mx yy xx _ _ _ _ _ _ _ ay]
    rw [i_add11, B341_182, if_pos (by decide), if_neg (by decide), if_neg (by decide), if_neg (by decide), ed, em, B341_213, if_neg (by decide), if_pos rfl, ed, ax, c6 e mx yy xx _ _ _ _ _ _ _ rfl]
    rw [i_add21, B341_182, if_pos (by decide), if_neg (by decide), if_neg (by decide), if_neg (by decide), ed, em, B341_213, if_neg (by decide), if_neg (by decide), if_pos rfl, ed, ax, d6 e mx yy xx _ _ _ _ _ _ _ ym]
    rw [show (3 : Int32) + 1 = 4 from rfl, B341_182, if_neg (by decide), nI_1 m]
end SHEET5
