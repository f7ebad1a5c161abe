/-! SEA: what is asked of it, both -/
section SEBS
variable {d e : Nat} {I J : Nat → Nat → Int32} {L L' : Nat → Nat → Int64} {pa pb pu pw : Option Nat} {m : Nat → Int32}
/-- whether the ship rests -/
theorem rests_b {N : Nat} (hT : seaT m N I J L L') : ∃ b : Int32, ((b = 0 ∧ (J 0 59 = 0 ∨ ¬ J 0 60 = 0)) ∨ (b = 1 ∧ I 60 2 = 1 ∧ J 0 59 = 1 ∧ J 0 60 = 0 ∧ ∃ o c b', o < 65536 ∧ seaC m o I J L ∧ memK m o I L ∧ rfS m o I J L' ∧ restP m o b' c I J L L')) ∧ jv d 96 0 [some (.ref 60)] [] (shC, I, L, pX pa pb pu pw) = some (some (.int b), (shC, I, L, pX pa pb pu pw)) ∧ jv e 292 0 [some (.ref 0)] [] (shR, J, L', pR) = some (some (.int b), (shR, J, L', pR)) := by
  obtain ⟨-, -, -, -, hk⟩ := hT
  rcases hk with ⟨z1, z2⟩ | ⟨z1, z2, o, r, ans, y1, y2, y3, y4, y5, y6, y7, y8⟩
  · exact ⟨0, Or.inl ⟨rfl, Or.inl z2⟩, by rw [B96_0, if_pos z1, B96_22, B96_23, if_pos bl_0], by rw [B292_0, if_pos z2, B292_18, B292_19, if_pos bl_0]⟩
  have n1 : ¬ I 60 2 = 0 := by rw [z1]; decide
  have n2 : ¬ J 0 59 = 0 := by rw [z2]; decide
  have bad : ∀ a : Int32, ans = a → a.toInt64 ≠ 0 → a ≠ 0 → ∃ b : Int32, ((b = 0 ∧ (J 0 59 = 0 ∨ ¬ J 0 60 = 0)) ∨ (b = 1 ∧ I 60 2 = 1 ∧ J 0 59 = 1 ∧ J 0 60 = 0 ∧ ∃ o c b', o < 65536 ∧ seaC m o I J L ∧ memK m o I L ∧ rfS m o I J L' ∧ restP m o b' c I J L L')) ∧ jv d 96 0 [some (.ref 60)] [] (shC, I, L, pX pa pb pu pw) = some (some (.int b), (shC, I, L, pX pa pb pu pw)) ∧ jv e 292 0 [some (.ref 0)] [] (shR, J, L', pR) = some (some (.int b), (shR, J, L', pR)) := by
    intro a ha h1 h2
    have j0 : ¬ J 0 60 = 0 := by rw [y7.1, ha]; exact h2
    exact ⟨0, Or.inl ⟨rfl, Or.inr j0⟩, by rw [B96_0, if_neg n1, if_pos (by decide), show (0 : Int32).toNatClampNeg = 0 from rfl, y6.1, if_neg (fun y => h1 ((lcmp_0 _).mp (by rw [ha] at y; exact y))), B96_22, B96_23, if_pos bl_0], by rw [B292_0, if_neg n2, if_neg j0, B292_18, B292_19, if_pos bl_0]⟩
  rcases y8 with z | z | ⟨z, c, b, y9⟩
  · exact bad 1 z (by decide) (by decide)
  · exact bad 2 z (by decide) (by decide)
  · have j0 : J 0 60 = 0 := by rw [y7.1, z]
    exact ⟨1, Or.inr ⟨rfl, z1, z2, j0, o, c, b, y1, y3, y4, y5, y9⟩, by rw [B96_0, if_neg n1, if_pos (by decide), show (0 : Int32).toNatClampNeg = 0 from rfl, y6.1, if_pos ((lcmp_0 _).mpr (by rw [z]; rfl)), B96_23, if_pos bl_1], by rw [B292_0, if_neg n2, if_pos j0, B292_19, if_pos bl_1]⟩
/-- rest(x) -/
theorem rest_ask {N : Nat} (hT : seaT m N I J L L') (h0 : I 0 11 = J 0 18) (x : Int32) : ∃ v : Int64, jv (d + 1) 194 0 [some (.ref 0), some (.int x)] [] (shC, I, L, pX pa pb pu pw) = some (some (.long v), (shC, I, L, pX pa pb pu pw)) ∧ jv e 324 0 [some (.ref 0), some (.int x)] [] (shR, J, L', pR) = some (some (.long v), (shR, J, L', pR)) := by
  by_cases q1 : x < 0
  · exact ⟨-1, by rw [B194_0, if_pos q1, B194_10], by rw [B324_0, if_pos q1, B324_10]⟩
  by_cases q2 : (11 : Int32) < x
  · exact ⟨-1, by rw [B194_0, if_neg q1, if_pos q2, B194_10], by rw [B324_0, if_neg q1, if_pos q2, B324_10]⟩
  by_cases q3 : J 0 18 = 0
  case neg => exact ⟨-3, by rw [B194_0, if_neg q1, if_neg q2, h0, if_neg q3], by rw [B324_0, if_neg q1, if_neg q2, if_neg q3]⟩
  obtain ⟨k, k1, rfl⟩ := nI_of q1
  have k11 : k ≤ 11 := Nat.le_of_not_lt (fun y => q2 (nI_lt (a := 11) y (by omega)))
  obtain ⟨b, hb, r1, r2⟩ := rests_b (d := d) (e := 0) (pa := pa) (pb := pb) (pu := pu) (pw := pw) hT
  obtain ⟨-, -, -, -, hk⟩ := hT
  rw [B194_0, if_neg q1, if_neg q2, h0, if_pos q3, B324_0, if_neg q1, if_neg q2, if_pos q3]
  rcases hk with ⟨z1, z2⟩ | ⟨z1, z2, o, r, ans, y1, y2, y3, y4, y5, ⟨t0, t1, t2, t3, t4⟩, ⟨j0, j1, l4⟩, y8⟩
  · exact ⟨-2, by rw [if_pos z1, B194_50], by rw [if_pos z2, B324_44]⟩
  rw [if_neg (show ¬ I 60 2 = 0 by rw [z1]; decide), if_neg (show ¬ J 0 59 = 0 by rw [z2]; decide)]
  have cut : ∀ {w : Int64}, w = L 61 k → jv (d + 1) 194 54 [some (.ref 0), some (.int (nI k))] [] (shC, I, L, pX pa pb pu pw) = some (some (.long w), (shC, I, L, pX pa pb pu pw)) := fun {w} hw => by
    rw [B194_54, if_pos (j_in_nI (by omega) (by decide)), nI_clamp (by omega), hw]
  have ne : ∀ a b : Nat, a < 20 → b < 20 → a ≠ b → ¬ nI a = Int32.ofInt b := fun a b ha hb hab y => hab ((nI_eq (by omega) (by omega)).mp y)
  by_cases q4 : 4 < k
  · rw [if_pos (show (4 : Int32) < nI k from nI_lt (a := 4) q4 (by omega)), jgo_some (d := d) rfl r1, if_pos (show (4 : Int32) < nI k from nI_lt (a := 4) q4 (by omega))]
    dsimp only [Option.toList_some, Option.toList_none, List.cons_append, List.nil_append]
    rw [B194_47]
    rcases hb with ⟨rfl, hj⟩ | ⟨rfl, -, -, hj, o', c, b', -, -, -, -, p1, p2, p3, ⟨u5, u6, u7, u8, u9, u10, u11⟩, -, ⟨w6, w7, w8⟩, ⟨x5, x0, x1, x2⟩, -⟩
    · have hj' := hj.resolve_left (by rw [z2]; decide)
      exact ⟨-2, by rw [if_pos rfl, B194_50], by rw [if_neg hj', B324_44]⟩
    · rw [if_neg (show ¬ (1 : Int32) = 0 by decide), if_pos hj, B324_48]
      have : k = 5 ∨ k = 6 ∨ k = 7 ∨ k = 8 ∨ k = 9 ∨ k = 10 ∨ k = 11 := by omega
      rcases this with rfl | rfl | rfl | rfl | rfl | rfl | rfl
      · refine ⟨_, cut u5.symm, ?_⟩
        rw [if_neg (by decide), if_neg (by decide), if_neg (by decide), if_neg (by decide), if_neg (by decide), if_pos (by decide), w6, vI_64 (by omega) (by omega)]
      · refine ⟨_, cut u6.symm, ?_⟩
        rw [if_neg (by decide), if_neg (by decide), if_neg (by decide), if_neg (by decide), if_neg (by decide), if_neg (by decide), if_pos (by decide), w7, vI_64 (by omega) (by omega)]
      · refine ⟨_, cut u7.symm, ?_⟩
        rw [if_neg (by decide), if_neg (by decide), if_neg (by decide), if_neg (by decide), if_neg (by decide), if_neg (by decide), if_neg (by decide), if_pos (by decide), w8, vI_64 (by omega) (by omega)]
      · refine ⟨_, cut u8.symm, ?_⟩
        rw [if_neg (by decide), if_neg (by decide), if_neg (by decide), if_neg (by decide), if_neg (by decide), if_neg (by decide), if_neg (by decide), if_neg (by decide), if_pos (by decide), x5]
      · refine ⟨_, cut u9.symm, ?_⟩
        rw [if_neg (by decide), if_neg (by decide), if_neg (by decide), if_neg (by decide), if_neg (by decide), if_neg (by decide), if_neg (by decide), if_neg (by decide), if_neg (by decide), if_pos (by decide), show (nI 9 - 9 : Int32).toNatClampNeg = 0 from rfl, x0]
      · refine ⟨_, cut u10.symm, ?_⟩
        rw [if_neg (by decide), if_neg (by decide), if_neg (by decide), if_neg (by decide), if_neg (by decide), if_neg (by decide), if_neg (by decide), if_neg (by decide), if_neg (by decide), if_pos (by decide), show (nI 10 - 9 : Int32).toNatClampNeg = 1 from rfl, x1]
      · refine ⟨_, cut u11.symm, ?_⟩
        rw [if_neg (by decide), if_neg (by decide), if_neg (by decide), if_neg (by decide), if_neg (by decide), if_neg (by decide), if_neg (by decide), if_neg (by decide), if_neg (by decide), if_pos (by decide), show (nI 11 - 9 : Int32).toNatClampNeg = 2 from rfl, x2]
  · rw [if_neg (show ¬ (4 : Int32) < nI k from nI_nlt (a := 4) (by omega) (by decide)), if_neg (show ¬ (4 : Int32) < nI k from nI_nlt (a := 4) (by omega) (by decide)), B324_48]
    have : k = 0 ∨ k = 1 ∨ k = 2 ∨ k = 3 ∨ k = 4 := by omega
    rcases this with rfl | rfl | rfl | rfl | rfl
    · exact ⟨_, cut t0.symm, by rw [if_pos (by decide), j0]⟩
    · exact ⟨_, cut t1.symm, by rw [if_neg (by decide), if_pos (by decide), j1]⟩
    · exact ⟨_, cut t2.symm, by rw [if_neg (by decide), if_neg (by decide), if_pos (by decide), y5.2.2.2.1]⟩
    · exact ⟨_, cut t3.symm, by rw [if_neg (by decide), if_neg (by decide), if_neg (by decide), if_pos (by decide), y5.2.2.2.2.2]⟩
    · exact ⟨_, cut t4.symm, by rw [if_neg (by decide), if_neg (by decide), if_neg (by decide), if_neg (by decide), if_pos (by decide), l4]⟩
/-- the points of a column under water, first one -/
theorem pts_c {o : Nat} {b c : Int} (h : seaC m o I J L) (hr : restP m o b c I J L L') {s k : Nat} (hs : s < 16) (hk : k < 16) : jv (d + 1) 99 0 [some (.ref 60), some (.int (nI s)), some (.int (nI k)), none] [] (shC, I, L, pX pa pb pu pw) = some (some (.int (vI (wtr m (seaL m o (WT m o) b c) b c (16 * s + k)))), (shC, I, L, pX pa pb pu pw)) := by
  obtain ⟨hc, hb, ha, ⟨u5, u6, u7, -⟩, -⟩ := hr
  have ei : (16 : Int32) * nI s + nI k = nI (16 * s + k) := by rw [show (16 : Int32) = nI 16 from rfl, nI_mul, nI_add]
  have pb' := plY_b (s := s) (k := k) ha hb hc hs hk
  obtain ⟨l0, l1, l2, l3⟩ := h.1.1.lo (i := 16 * s + k) (by omega)
  have ji : j_in (nI (16 * s + k)) 256 = true := j_in_nI (by omega) (by decide)
  rw [B99_0, ei, if_neg (nI_pos (by omega)), if_pos (show nI (16 * s + k) < 256 from nI_lt (b := 256) (by omega) (by decide)), jgo_some (d := d) rfl (plane_c u5 u6 u7 ha hb hc hs hk)]
  dsimp only [Option.toList_some, Option.toList_none, List.cons_append, List.nil_append]
  rw [B99_32, if_pos ji, if_pos ji, nI_clamp (by omega), (h.2.1.1 _ (by omega)).1, (h.2.1.1 _ (by omega)).2]
  unfold wtr
  rw [show (16 * s + k) / 16 = s by omega, show (16 * s + k) % 16 = k by omega]
  generalize plY (seaL m o (WT m o) b c) b c s k = pl at *
  generalize hLo m (16 * s + k) = lo at *
  generalize hHi m (16 * s + k) = hi at *
  have e1 : (if vI hi < vI pl then vI hi else vI pl) = vI (if pl < hi then pl else hi) := by
    by_cases z : hi < pl
    · rw [if_pos ((vI_lt (by omega) (by omega) (by omega) (by omega)).mpr z), if_neg (by omega)]
    · rw [if_neg (fun y => z ((vI_lt (by omega) (by omega) (by omega) (by omega)).mp y))]
      by_cases z2 : pl < hi
      · rw [if_pos z2]
      · rw [if_neg z2, show pl = hi by omega]
  have ub : -300000 ≤ (if pl < hi then pl else hi) ∧ (if pl < hi then pl else hi) ≤ 300000 := by split <;> omega
  rw [e1, vI_sub]
  generalize (if pl < hi then pl else hi) = u at *
  unfold wP
  by_cases z : lo < u
  · rw [if_pos (show (0 : Int32) < vI (u - lo) from (vI_lt (a := 0) (by omega) (by omega) (by omega) (by omega)).mpr (by omega)), if_pos z]
  · rw [if_neg (show ¬ (0 : Int32) < vI (u - lo) from fun y => z (by have := (vI_lt (a := 0) (by omega) (by omega) (by omega) (by omega)).mp y; omega)), if_neg z]; rfl
/-- water(x, y) -/
theorem water_ask {N : Nat} (hT : seaT m N I J L L') (h0 : I 0 11 = J 0 18) (x y : Int32) : ∃ v : Int32, jv (d + 2) 195 0 [some (.ref 0), some (.int x), some (.int y)] [] (shC, I, L, pX pa pb pu pw) = some (some (.int v), (shC, I, L, pX pa pb pu pw)) ∧ jv (e + 1) 325 0 [some (.ref 0), some (.int x), some (.int y)] [] (shR, J, L', pR) = some (some (.int v), (shR, J, L', pR)) := by
  rw [B195_0, B325_0]
  by_cases q1 : x < 0
  · exact ⟨-1, by rw [if_pos q1, B195_20], by rw [if_pos q1, B325_20]⟩
  by_cases q2 : (15 : Int32) < x
  · exact ⟨-1, by rw [if_neg q1, if_pos q2, B195_20], by rw [if_neg q1, if_pos q2, B325_20]⟩
  by_cases q3 : y < 0
  · exact ⟨-1, by rw [if_neg q1, if_neg q2, if_pos q3, B195_20], by rw [if_neg q1, if_neg q2, if_pos q3, B325_20]⟩
  by_cases q4 : (15 : Int32) < y
  · exact ⟨-1, by rw [if_neg q1, if_neg q2, if_neg q3, if_pos q4, B195_20], by rw [if_neg q1, if_neg q2, if_neg q3, if_pos q4, B325_20]⟩
  rw [if_neg q1, if_neg q2, if_neg q3, if_neg q4, if_neg q1, if_neg q2, if_neg q3, if_neg q4, h0]
  by_cases q5 : J 0 18 = 0
  case neg => exact ⟨-3, by rw [if_neg q5], by rw [if_neg q5, B325_57]⟩
  obtain ⟨s, s1, rfl⟩ := nI_of q1
  obtain ⟨k, k1, rfl⟩ := nI_of q3
  have s15 : s < 16 := Nat.lt_succ_of_le (Nat.le_of_not_lt (fun y => q2 (nI_lt (a := 15) y (by omega))))
  have k15 : k < 16 := Nat.lt_succ_of_le (Nat.le_of_not_lt (fun y => q4 (nI_lt (a := 15) y (by omega))))
  obtain ⟨b, hb, r1, r2⟩ := rests_b (d := d + 1) (e := e) (pa := pa) (pb := pb) (pu := pu) (pw := pw) hT
  rw [if_pos q5, if_pos q5, jgo_some (d := d + 1) rfl r1, jgo_some (d := e) rfl r2]
  dsimp only [Option.toList_some, Option.toList_none, List.cons_append, List.nil_append]
  rw [B195_39, B325_38]
  rcases hb with ⟨rfl, -⟩ | ⟨rfl, -, -, -, o, c, b', -, h3, -, -, hr⟩
  · exact ⟨-2, by rw [if_pos rfl, B195_56], by rw [if_pos rfl, B325_57]⟩
  · have ei : (16 : Int32) * nI s + nI k = nI (16 * s + k) := by rw [show (16 : Int32) = nI 16 from rfl, nI_mul, nI_add]
    refine ⟨vI (wtr m (seaL m o (WT m o) b' c) b' c (16 * s + k)), ?_, ?_⟩
    · rw [if_neg (show ¬ (1 : Int32) = 0 by decide), jgo_some (d := d + 1) rfl (pts_c h3 hr s15 k15)]
      dsimp only [Option.toList_some, Option.toList_none, List.cons_append, List.nil_append]
      rw [B195_51, B195_56]
    · obtain ⟨-, -, -, -, -, -, -, -, w, -⟩ := hr
      rw [if_neg (show ¬ (1 : Int32) = 0 by decide), ei, if_pos (j_in_nI (by omega) (by decide)), nI_clamp (by omega), w _ (by omega), B325_57]
/-- liquid(x) -/
theorem liquid_ask {N : Nat} (hT : seaT m N I J L L') (h0 : I 0 11 = J 0 18) (x : Int32) : ∃ v : Int32, jv (d + 2) 196 0 [some (.ref 0), some (.int x)] [] (shC, I, L, pX pa pb pu pw) = some (some (.int v), (shC, I, L, pX pa pb pu pw)) ∧ jv (e + 2) 326 0 [some (.ref 0), some (.int x)] [] (shR, J, L', pR) = some (some (.int v), (shR, J, L', pR)) := by
  rw [B196_0, B326_0]
  by_cases q1 : x < 0
  · exact ⟨-1, by rw [if_pos q1, B196_10], by rw [if_pos q1, B326_10]⟩
  by_cases q2 : (15 : Int32) < x
  · exact ⟨-1, by rw [if_neg q1, if_pos q2, B196_10], by rw [if_neg q1, if_pos q2, B326_10]⟩
  rw [if_neg q1, if_neg q2, if_neg q1, if_neg q2, h0]
  by_cases q5 : J 0 18 = 0
  case neg => exact ⟨-3, by rw [if_neg q5], by rw [if_neg q5, B326_50]⟩
  obtain ⟨p, p1, rfl⟩ := nI_of q1
  have p15 : p < 16 := Nat.lt_succ_of_le (Nat.le_of_not_lt (fun y => q2 (nI_lt (a := 15) y (by omega))))
  have jp : j_in (nI p) 16 = true := j_in_nI p15 (by decide)
  have cp : (nI p).toNatClampNeg = p := nI_clamp (by omega)
  obtain ⟨b, hb, r1, r2⟩ := rests_b (d := d + 1) (e := e + 1) (pa := pa) (pb := pb) (pu := pu) (pw := pw) hT
  rw [if_pos q5, if_pos q5, jgo_some (d := d + 1) rfl r1, jgo_some (d := e + 1) rfl r2]
  dsimp only [Option.toList_some, Option.toList_none, List.cons_append, List.nil_append]
  rw [B196_29, B326_28]
  rcases hb with ⟨rfl, -⟩ | ⟨rfl, -, -, -, o, c, b', -, h3, -, h5, hr⟩
  · exact ⟨-2, by rw [if_pos rfl, B196_54, B196_56], by rw [if_pos rfl, B326_48, B326_50]⟩
  rw [if_neg (show ¬ (1 : Int32) = 0 by decide), if_neg (show ¬ (1 : Int32) = 0 by decide), jgo_some (d := d + 1) rfl (hasl_c h3 p15), jgo_some (d := e + 1) rfl (hasl_r h5.1 h5.2.2.2.1 p15)]
  dsimp only [Option.toList_some, Option.toList_none, List.cons_append, List.nil_append]
  rw [B196_40, B326_36]
  obtain ⟨-, -, -, -, w67, -, -, -, -, w43, -⟩ := hr
  by_cases hl : hasL m o p
  · have lv : jv (d + 1) 98 0 [some (.ref 60), some (.int (nI p))] [] (shC, I, L, pX pa pb pu pw) = some (some (.int (vI (liqL m p b' c))), (shC, I, L, pX pa pb pu pw)) := by
      rw [B98_0, if_neg (nI_pos (by omega)), if_pos (show nI p < 16 from nI_lt (b := 16) p15 (by decide)), if_pos jp, cp, w67 p p15 hl, B98_23]
    refine ⟨vI (liqL m p b' c), ?_, ?_⟩
    · rw [if_pos hl, if_neg (show ¬ (1 : Int32) = 0 by decide), jgo_some (d := d + 1) rfl lv]
      dsimp only [Option.toList_some, Option.toList_none, List.cons_append, List.nil_append]
      rw [B196_51, B196_56]
    · rw [if_pos hl, if_neg (show ¬ (1 : Int32) = 0 by decide), if_pos jp, cp, w43 p p15 hl, B326_50]
  · exact ⟨-2, by rw [if_neg hl, if_pos rfl, B196_54, B196_56], by rw [if_neg hl, if_pos rfl, B326_48, B326_50]⟩
end SEBS
