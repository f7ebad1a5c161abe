/-! SEA: sea() as a call -/
section SEBR
variable {d e : Nat} {I J : Nat → Nat → Int32} {L L' : Nat → Nat → Int64} {pa pb pu pw : Option Nat} {m : Nat → Int32} {o : Nat}
/-- what sea() leaves alone, first one -/
def scF (I I' : Nat → Nat → Int32) (L L1 : Nat → Nat → Int64) : Prop := (∀ c, c < 60 ∨ 82 < c → c ≠ 116 → I' c = I c) ∧ (∀ f, f ≠ 10 → I' 116 f = I 116 f) ∧ I' 116 10 = 0 ∧ ∀ c, c < 60 ∨ 72 < c → L1 c = L c
/-- what sea() leaves alone, second one -/
def srF (J J' : Nat → Nat → Int32) (L L1 : Nat → Nat → Int64) : Prop := (∀ c, c ≠ 0 → c < 42 ∨ 47 < c → J' c = J c) ∧ (∀ q, q < 59 ∨ 62 < q → q < 66 ∨ 68 < q → q ≠ 86 → J' 0 q = J 0 q) ∧ (∀ c, c ≠ 0 → c < 38 ∨ 41 < c → L1 c = L c) ∧ ∀ q, q < 63 ∨ 85 < q → L1 0 q = L 0 q
theorem seaC.told (h : seaC m o I J L) {L1 : Nat → Nat → Int64} (e : ∀ c, c ≠ 61 → L1 c = L c) : seaC m o I J L1 := h.gen rfl rfl rfl (fun _ _ _ => rfl) h.2.2.2.1 (by rw [e 60 (by decide)]) (fun c hc => e c (by omega))
theorem sea_go (h : mQ m I J) (rt : rtM m) {N : Nat} (hT : seaT m N I J L L') (hN : N + 17 < 2000000000) (hk : opKd m o) (o16 : o < 65536) (h116 : I 116 10 = 0) : ∃ (v : Int32) (N' : Nat) (I' J' : Nat → Nat → Int32) (L1 L1' : Nat → Nat → Int64), N' ≤ N + 17 ∧ seaT m N' I' J' L1 L1' ∧ scF I I' L L1 ∧ srF J J' L' L1' ∧ jv (d + 6) 102 0 [some (.ref 60), some (.int (nI o)), none, none, none, none, none] [] (shC, I, L, pX pa pb pu pw) = some (some (.int v), (shC, I', L1, pX pa pb pu pw)) ∧ jv (e + 12) 319 80 [some (.ref 0), some (.int (nI o)), some (.int 1)] [] (shR, j_up (j_up (j_up J 0 59 1) 0 62 (nI o)) 0 61 0, L', pR) = some (some (.int v), (shR, J', L1', pR)) := by
  obtain ⟨hn, ht, ⟨z75, z77, z79⟩, ⟨z40, z41⟩, -⟩ := hT
  obtain ⟨I1, a1, a2, a3, a4, a5⟩ := hull_c (d := d + 3) (L := L) (pa := pa) (pb := pb) (pu := pu) (pw := pw) h z75 z77 z79
  generalize hI2 : j_up I1 60 4 (nI o) = I2
  have f2 : ∀ c, c ≠ 60 → I2 c = I1 c := fun c hc => by rw [← hI2, j_up_cell _ hc]
  have f60 : ∀ j, j ≠ 4 → I2 60 j = I 60 j := fun j hj => by rw [← hI2, j_up_nq _ (Or.inr hj), a1 60 (by decide)]
  generalize hJ2 : j_up (j_up (j_up J 0 59 1) 0 62 (nI o)) 0 61 0 = J2
  have g2c : ∀ c, c ≠ 0 → J2 c = J c := fun c hc => by rw [← hJ2, j_up_cell _ hc, j_up_cell _ hc, j_up_cell _ hc]
  have g20 : ∀ q, J2 0 q = if q = 61 then 0 else if q = 62 then nI o else if q = 59 then 1 else J 0 q := fun q => by rw [← hJ2, j_up_own, j_up_own, j_up_own]
  have q2 : mQ m I2 J2 := (h.fr (fun q _ => by rw [f2 2 (by decide), a1 2 (by decide)])).frR (fun c c1 _ => g2c c c1)
  have hE2 : hlE m I2 := by
    refine ⟨fun x hx => ?_, fun x hx => ?_⟩
    · rw [f2 73 (by decide), f2 74 (by decide)]; exact a2.1 x hx
    · rw [f2 75 (by decide), f2 76 (by decide), f2 77 (by decide), f2 78 (by decide), f2 79 (by decide), f2 80 (by decide)]; exact a2.2 x hx
  obtain ⟨o', r, N', ans, I3, J3, L3, L3', i', p6, y1, y2, y3, y4, y5, y6, y7, y8⟩ := sea_loop (d := d + 1) (e := e) (pa := pa) (pb := pb) (pu := pu) (pw := pw) rt (l1 := nI o) 17 0 o N I2 J2 L L' 0 1 none (by omega) (Nat.zero_le _) (by decide) q2 hk o16 hE2 (by rw [f2 81 (by decide)]; exact a3) (fun q hq => by rw [f2 82 (by decide), a1 82 (by decide)]; exact hn q hq) (by rw [← hI2, j_up_eq]) ⟨by rw [f60 6 (by decide)]; exact ht.1, fun x hx => by rw [f2 71 (by decide), a1 71 (by decide)]; exact ht.2 x hx⟩ hN (by rw [g20]; rfl) (by rw [g20]; rfl)
  obtain ⟨r1, r2, r3, r4, r5, r6, r7, r8, r9⟩ := y4
  have runC : jv (d + 6) 102 0 [some (.ref 60), some (.int (nI o)), none, none, none, none, none] [] (shC, I, L, pX pa pb pu pw) = jv (d + 6) 102 158 [some (.ref 60), some (.int (nI o)), some (.int ans), some (.int (nI r)), some (.int 0), some (.int i'), p6] [] (shC, I3, L3, pX pa pb pu pw) := by
    rw [B102_0, jgo_some (d := d + 5) rfl a5]
    dsimp only [Option.toList_some, Option.toList_none, List.cons_append, List.nil_append]
    rw [B102_11, hI2]
    exact y7
  -- what is told
  generalize hL4 : j_up (j_up (j_up (j_up L3 61 0 ans.toInt64) 61 1 (nI r).toInt64) 61 2 (nI o').toInt64) 61 3 (lI (WT m o')) = L4
  have c61 : ∀ c, c ≠ 61 → L4 c = L3 c := fun c hc => by rw [← hL4, j_up_cell _ hc, j_up_cell _ hc, j_up_cell _ hc, j_up_cell _ hc]
  have r61 : ∀ j, L4 61 j = if j = 3 then lI (WT m o') else if j = 2 then (nI o').toInt64 else if j = 1 then (nI r).toInt64 else if j = 0 then ans.toInt64 else L3 61 j := fun j => by rw [← hL4, j_up_own, j_up_own, j_up_own, j_up_own]
  have runC2 : jv (d + 6) 102 158 [some (.ref 60), some (.int (nI o)), some (.int ans), some (.int (nI r)), some (.int 0), some (.int i'), p6] [] (shC, I3, L3, pX pa pb pu pw) = if ans = 0 then jgo jTT jMM (d + 6) 111 [.ref 60] (shC, I3, L4, pX pa pb pu pw) (fun v S => jv (d + 6) 102 203 [some (.ref 60), some (.int (nI o)), some (.int ans), some (.int (nI r)), some (.int 0), some (.int i'), p6] (v.toList ++ []) S) else jv (d + 6) 102 203 [some (.ref 60), some (.int (nI o)), some (.int ans), some (.int (nI r)), some (.int 0), some (.int i'), p6] [] (shC, I3, L4, pX pa pb pu pw) := by
    rw [B102_158, if_pos (by decide), if_pos (by decide), if_pos (by decide), if_pos (by decide), r1.2.2.2.2.1, show (0 : Int32).toNatClampNeg = 0 from rfl, show (1 : Int32).toNatClampNeg = 1 from rfl, show (2 : Int32).toNatClampNeg = 2 from rfl, show (3 : Int32).toNatClampNeg = 3 from rfl, j_up_nq _ (show (60 : Nat) ≠ 61 ∨ 7 ≠ 2 from Or.inl (by decide)), j_up_nq _ (show (60 : Nat) ≠ 61 ∨ 7 ≠ 1 from Or.inl (by decide)), j_up_nq _ (show (60 : Nat) ≠ 61 ∨ 7 ≠ 0 from Or.inl (by decide)), r1.2.2.2.2.2.2.1, hL4]
  have C4 := r1.told c61
  have M4 : memK m o' I3 L4 := fun x hx hk => by rw [c61 70 (by decide)]; exact r2 x hx hk
  -- the known sea, first one
  generalize hI5 : j_up I3 60 2 1 = I5
  have f5 : ∀ c, c ≠ 60 → I5 c = I3 c := fun c hc => by rw [← hI5, j_up_cell _ hc]
  have f5j : ∀ j, j ≠ 2 → I5 60 j = I3 60 j := fun j hj => by rw [← hI5, j_up_nq _ (Or.inr hj)]
  have n5 : nearK I5 := fun q hq => by rw [f5 82 (by decide)]; exact r1.2.2.2.1 q hq
  have C5 : ∀ {L5 : Nat → Nat → Int64}, (∀ c, c ≠ 61 → c ≠ 68 → c ≠ 72 → L5 c = L3 c) → seaC m o' I5 J3 L5 := fun {L5} e5 => r1.gen (f5 2 (by decide)) (f5j 4 (by decide)) (f5j 5 (by decide)) (fun c c1 c2 => f5 c (by omega)) n5 (by rw [e5 60 (by decide) (by decide) (by decide)]) (fun c hc => e5 c (by omega) (by omega) (by omega))
  have M5 : ∀ {L5 : Nat → Nat → Int64}, L5 70 = L3 70 → memK m o' I5 L5 := fun {L5} e5 x hx hk => by
    rw [f5 71 (by decide), f5j 6 (by decide)] at hk
    rw [e5, f5 69 (by decide)]; exact r2 x hx hk
  have T5 : turK N' I5 := ⟨by rw [f5j 6 (by decide)]; exact r3.1, fun x hx => by rw [f5 71 (by decide)]; exact r3.2 x hx⟩
  have Z5 : I5 75 0 = 0 ∧ I5 77 0 = 0 ∧ I5 79 0 = 0 := by
    obtain ⟨k1, -, k3, -, k5, -⟩ := r1.2.1.2 0 (by decide)
    rw [f5 75 (by decide), f5 77 (by decide), f5 79 (by decide), k1, k3, k5]
    exact ⟨rfl, rfl, rfl⟩
  have K5 : I5 60 2 = 1 := by rw [← hI5, j_up_eq]
  have F5 : ∀ {L5 : Nat → Nat → Int64}, (∀ c, c ≠ 61 → c ≠ 68 → c ≠ 72 → L5 c = L3 c) → scF I I5 L L5 := fun {L5} e5 => ⟨fun c c1 c2 => by rw [f5 c (by omega), y5.1 c (by omega) (by omega) (by omega) (by omega) (by omega) (by omega), f2 c (by omega), a1 c (by omega)], fun f hf => by rw [f5 116 (by decide), y5.1 116 (by decide) (by decide) (by decide) (by decide) (by decide) (by decide), f2 116 (by decide), a1 116 (by decide)], by rw [f5 116 (by decide), y5.1 116 (by decide) (by decide) (by decide) (by decide) (by decide) (by decide), f2 116 (by decide), a1 116 (by decide)]; exact h116, fun c hc => by rw [e5 c (by omega) (by omega) (by omega), y5.2.2 c hc]⟩
  -- the second one's cells
  have j59 : J3 0 59 = 1 := by rw [y6.2.1 59 (by decide) (by decide) (by decide), g20]; rfl
  have sr : srF J J3 L' L3' := ⟨fun c c1 c2 => by rw [y6.1 c c1 (by omega), g2c c c1], fun q h1 h2 h3 => by rw [y6.2.1 q (by omega) h2 h3, g20, if_neg (by omega), if_neg (by omega), if_neg (by omega)], fun c c1 c2 => y6.2.2.1 c c1 (by omega), y6.2.2.2⟩
  have l40 : L3' 40 0 = 0 ∧ L3' 41 0 = 0 := by rw [y6.2.2.1 40 (by decide) (by decide), y6.2.2.1 41 (by decide) (by decide)]; exact ⟨z40, z41⟩
  have tl : ∀ {L5 : Nat → Nat → Int64}, L5 61 = L4 61 → (L5 61 0 = ans.toInt64 ∧ L5 61 1 = (nI r).toInt64 ∧ L5 61 2 = (nI o').toInt64 ∧ L5 61 3 = lI (WT m o') ∧ L5 61 4 = lI (VW m o' 0 200000 0 0)) := fun {L5} e5 => by
    rw [e5, r61, r61, r61, r61, r61]
    exact ⟨rfl, rfl, rfl, rfl, r4⟩
  have R5 : rfS m o' I5 J3 L3' := r5.toI (r1.1.1.fr (fun q _ => by rw [f5 2 (by decide)]))
  have noR : ans ≠ 0 → (ans = 1 ∨ ans = 2) → ∃ (v : Int32) (N' : Nat) (I' J' : Nat → Nat → Int32) (L1 L1' : Nat → Nat → Int64), N' ≤ N + 17 ∧ seaT m N' I' J' L1 L1' ∧ scF I I' L L1 ∧ srF J J' L' L1' ∧ jv (d + 6) 102 0 [some (.ref 60), some (.int (nI o)), none, none, none, none, none] [] (shC, I, L, pX pa pb pu pw) = some (some (.int v), (shC, I', L1, pX pa pb pu pw)) ∧ jv (e + 12) 319 80 [some (.ref 0), some (.int (nI o)), some (.int 1)] [] (shR, J2, L', pR) = some (some (.int v), (shR, J', L1', pR)) := by
    intro hne ha
    refine ⟨ans, N', I5, J3, L4, L3', y3, ⟨n5, T5, Z5, l40, Or.inr ⟨K5, j59, o', r, ans, y1, y2, C5 (fun c c1 _ _ => c61 c c1), M5 (c61 70 (by decide)), R5, tl rfl, ⟨r8, r7, r6⟩, by rcases ha with z | z; exact Or.inl z; exact Or.inr (Or.inl z)⟩⟩, F5 (fun c c1 _ _ => c61 c c1), sr, ?_, ?_⟩
    · rw [runC, runC2, if_neg hne, B102_203, if_pos bl_1, hI5]
    · rw [y8, B319_80, if_pos rfl, if_neg (by rw [r8]; exact hne), B319_140, r8]
  rcases r9 with z | z | ⟨z, c, b, w1, w2, w3, w4, w5, w6, w7, w8, w9, w10, w11, w12⟩
  · exact noR (by rw [z]; decide) (Or.inl z)
  · exact noR (by rw [z]; decide) (Or.inr z)
  · obtain ⟨f, s5, s6⟩ := r5.2.2.2.2.1
    obtain ⟨J6, L6', b1, b2, b3, b4, b5, b6, b7⟩ := loads_r (e := e + 6) r5.1 s5 s6 r5.2.2.2.1 w6 w7 w8 w3 w2 w1 l40.1 l40.2
    have td4 : ∀ j, 4 ≤ j → L4 61 j = L3 61 j := fun j hj => by rw [r61, if_neg (by omega), if_neg (by omega), if_neg (by omega), if_neg (by omega)]
    obtain ⟨t5, t6, t7, t8, t9, t10, t11⟩ := w4
    obtain ⟨L6, d1, d2, d3⟩ := loads_c (d := d + 4) (pa := pa) (pb := pb) (pu := pu) (pw := pw) C4 ((td4 5 (by decide)).trans t5) ((td4 6 (by decide)).trans t6) ((td4 7 (by decide)).trans t7) w3 w2 w1 w5
    have e6 : ∀ c, c ≠ 61 → c ≠ 68 → c ≠ 72 → L6 c = L3 c := fun c c1 c2 c3 => by rw [d1 c c2 c3, c61 c c1]
    have J6c : ∀ c, c ≠ 42 → c ≠ 43 → J6 c = J3 c := b1
    have R6 : rfS m o' I5 J6 L6' := by
      obtain ⟨s1, s2, s3, s4, -, s7⟩ := R5
      exact ⟨s1.frR (fun c _ c6 => J6c c (by omega) (by omega)), s2, s3, by rw [J6c 0 (by decide) (by decide)]; exact s4, ⟨f, s5.cg2 (fun c c1 c2 => J6c c (by omega) (by omega)), by rw [J6c 44 (by decide) (by decide)]; exact s6⟩, by rw [b2 0 (by decide)]; exact s7⟩
    have J60 : J6 0 = J3 0 := J6c 0 (by decide) (by decide)
    have L60 : L6' 0 = L3' 0 := b2 0 (by decide)
    have L61 : L6 61 = L4 61 := d1 61 (by decide) (by decide)
    refine ⟨ans, N', I5, J6, L6, L6', y3, ⟨n5, T5, Z5, ⟨by rw [(b6 0 (by omega)).1]; rfl, by rw [(b6 0 (by omega)).2]; rfl⟩, Or.inr ⟨K5, by rw [J60]; exact j59, o', r, ans, y1, y2, (C5 e6).toJ R6.1, M5 (e6 70 (by decide) (by decide) (by decide)), R6, tl L61, ⟨by rw [J60]; exact r8, by rw [J60]; exact r7, by rw [L60]; exact r6⟩, Or.inr (Or.inr ⟨z, c, b, w1, w2, w3, ?_, ?_, ?_, ?_, fun s hs => ⟨d2 s hs, b5 s hs⟩, b3, b4, b6⟩)⟩⟩, F5 e6, ?_, ?_, ?_⟩
    · unfold tdP
      rw [L61, td4 5 (by decide), td4 6 (by decide), td4 7 (by decide), td4 8 (by decide), td4 9 (by decide), td4 10 (by decide), td4 11 (by decide)]
      exact ⟨t5, t6, t7, t8, t9, t10, t11⟩
    · intro p hp hl
      rw [f5 67 (by decide)]; exact w5 p hp hl
    · rw [J60]; exact ⟨w6, w7, w8⟩
    · rw [L60, b2 38 (by decide)]; exact ⟨w9, w10, w11, w12⟩
    · exact ⟨fun c c1 c2 => by rw [J6c c (by omega) (by omega)]; exact sr.1 c c1 (by omega), fun q h1 h2 h3 => by rw [J60]; exact sr.2.1 q h1 h2 h3, fun c c1 c2 => by rw [b2 c (by omega)]; exact sr.2.2.1 c c1 c2, fun q hq => by rw [L60]; exact sr.2.2.2 q hq⟩
    · rw [runC, runC2, if_pos z, jgo_some (d := d + 5) rfl d3]
      dsimp only [Option.toList_some, Option.toList_none, List.cons_append, List.nil_append]
      rw [B102_203, if_pos bl_1, hI5]
    · rw [y8, B319_80, if_pos rfl, if_pos (by rw [r8]; exact z), jgo_some (d := e + 11) rfl b7]
      dsimp only [Option.toList_some, Option.toList_none, List.cons_append, List.nil_append]
      rw [B319_140, J60, r8]
/-- sea(x), any x -/
theorem sea_call (h : mQ m I J) (rt : rtM m) {N : Nat} (hT : seaT m N I J L L') (hN : N + 17 < 2000000000) (h0 : I 0 11 = J 0 18) (x : Int32) : (∃ v, jv (d + 7) 193 0 [some (.ref 0), some (.int x)] [] (shC, I, L, pX pa pb pu pw) = some (some (.int v), (shC, I, L, pX pa pb pu pw)) ∧ jv (e + 12) 319 0 [some (.ref 0), some (.int x), none] [] (shR, J, L', pR) = some (some (.int v), (shR, J, L', pR))) ∨ ∃ (v : Int32) (N' : Nat) (I' J' : Nat → Nat → Int32) (L1 L1' : Nat → Nat → Int64), N' ≤ N + 17 ∧ seaT m N' I' J' L1 L1' ∧ scF I I' L L1 ∧ srF J J' L' L1' ∧ jv (d + 7) 193 0 [some (.ref 0), some (.int x)] [] (shC, I, L, pX pa pb pu pw) = some (some (.int v), (shC, I', L1, pX pa pb pu pw)) ∧ jv (e + 12) 319 0 [some (.ref 0), some (.int x), none] [] (shR, J, L', pR) = some (some (.int v), (shR, J', L1', pR)) := by
  have c16 : ((1 : Int32) <<< (z_0.getD (2 : Int32).toNatClampNeg 0 &&& 31)) = nI 65536 := by decide
  by_cases q1 : x < 0
  · exact Or.inl ⟨-1, by rw [B193_0, if_pos q1, B193_29], by rw [B319_0, if_pos q1, B319_11]⟩
  obtain ⟨o, o1, rfl⟩ := nI_of q1
  by_cases q2 : o < 65536
  case neg =>
    exact Or.inl ⟨-1, by rw [B193_0, if_neg q1, if_pos (by decide), c16, if_neg (nI_nlt (by omega) (by omega)), B193_29], by rw [B319_0, if_neg q1, if_pos (show (65535 : Int32) < nI o from nI_lt (a := 65535) (by omega) (by omega)), B319_11]⟩
  obtain ⟨v, v1, v2⟩ := kinds_c (d := d + 4) (L := L) (pa := pa) (pb := pb) (pu := pu) (pw := pw) h
  have ok := kinds_ok (o := o) v1 q2
  have stC : jv (d + 7) 193 0 [some (.ref 0), some (.int (nI o))] [] (shC, I, L, pX pa pb pu pw) = jv (d + 7) 193 23 [some (.ref 0), some (.int (nI o))] [.int v, .int (nI o)] (shC, I, L, pX pa pb pu pw) := by
    rw [B193_0, if_neg q1, if_pos (by decide), c16, if_pos (nI_lt q2 (by decide)), jgo_some (d := d + 6) rfl v2]
    rfl
  have stR : jv (e + 12) 319 0 [some (.ref 0), some (.int (nI o)), none] [] (shR, J, L', pR) = jv (e + 12) 319 15 [some (.ref 0), some (.int (nI o)), some (.int (nI 0))] [] (shR, J, L', pR) := by
    rw [B319_0, if_neg q1, if_neg (show ¬ (65535 : Int32) < nI o from nI_nlt (a := 65535) (by omega) (by decide))]
    rfl
  rcases kinds_r (e := e + 11) (L := L') (o := o) h 16 0 (by omega) with ⟨q, -, k2, k3, k4, k5⟩ | ⟨k1, k2⟩
  · refine Or.inl ⟨-1, ?_, by rw [stR]; exact k5⟩
    rw [stC, B193_23, if_neg (fun y => ok.mp y q k2 k3 k4), B193_29]
  have hk : opKd m o := fun p hp hb => k1 p (Nat.zero_le _) hp hb
  have stR2 : jv (e + 12) 319 0 [some (.ref 0), some (.int (nI o)), none] [] (shR, J, L', pR) = if J 0 18 = 0 then jv (e + 12) 319 80 [some (.ref 0), some (.int (nI o)), some (.int 1)] [] (shR, j_up (j_up (j_up J 0 59 1) 0 62 (nI o)) 0 61 0, L', pR) else some (some (.int (-3)), (shR, J, L', pR)) := by
    rw [stR, k2, B319_15, if_neg (by decide), if_pos bl_1]
  rw [stR2, stC, B193_23, if_pos (ok.mpr hk), h0]
  by_cases q3 : J 0 18 = 0
  case neg => exact Or.inl ⟨-3, by rw [if_neg q3], by rw [if_neg q3]⟩
  rw [if_pos q3, if_pos q3, if_pos bl_0]
  generalize hI1 : j_up I 116 10 0 = I1
  have f1 : ∀ c, c ≠ 116 → I1 c = I c := fun c hc => by rw [← hI1, j_up_cell _ hc]
  have hq : mQ m I1 J := h.fr (fun q _ => by rw [f1 2 (by decide)])
  have hT1 : seaT m N I1 J L L' := by
    obtain ⟨n1, n2, n3, n4, n5⟩ := hT
    refine ⟨fun q hq => by rw [f1 82 (by decide)]; exact n1 q hq, ⟨by rw [f1 60 (by decide)]; exact n2.1, fun i hi => by rw [f1 71 (by decide)]; exact n2.2 i hi⟩, by rw [f1 75 (by decide), f1 77 (by decide), f1 79 (by decide)]; exact n3, n4, ?_⟩
    rw [f1 60 (by decide)]
    rcases n5 with z | ⟨z1, z2, o', r, ans, y1, y2, y3, y4, y5, y6, y7, y8⟩
    · exact Or.inl z
    · refine Or.inr ⟨z1, z2, o', r, ans, y1, y2, y3.gen (f1 2 (by decide)) (by rw [f1 60 (by decide)]) (by rw [f1 60 (by decide)]) (fun c c1 c2 => f1 c (by omega)) (fun q hq => by rw [f1 82 (by decide)]; exact n1 q hq) rfl (fun _ _ => rfl), fun i hi hk => ?_, y5.toI hq, y6, y7, ?_⟩
      · rw [f1 71 (by decide), f1 60 (by decide)] at hk
        rw [f1 69 (by decide)]; exact y4 i hi hk
      · rcases y8 with z | z | ⟨z, c, b, p1, p2, p3, p4, p5, p6⟩
        · exact Or.inl z
        · exact Or.inr (Or.inl z)
        · exact Or.inr (Or.inr ⟨z, c, b, p1, p2, p3, p4, fun p hp hl => by rw [f1 67 (by decide)]; exact p5 p hp hl, p6⟩)
  obtain ⟨v', N', I', J', L1, L1', b1, b2, b3, b4, b5, b6⟩ := sea_go (d := d) (e := e) (pa := pa) (pb := pb) (pu := pu) (pw := pw) hq rt hT1 hN hk q2 (by rw [← hI1, j_up_eq])
  refine Or.inr ⟨v', N', I', J', L1, L1', b1, b2, ⟨fun c c1 c2 => by rw [b3.1 c c1 c2, f1 c c2], fun f hf => by rw [b3.2.1 f hf, ← hI1, j_up_nq _ (Or.inr hf)], b3.2.2.1, b3.2.2.2⟩, b4, ?_, b6⟩
  rw [jgo_some (d := d + 6) rfl b5]
  dsimp only [Option.toList_some, Option.toList_none, List.cons_append, List.nil_append]
  rw [B193_57]
end SEBR
