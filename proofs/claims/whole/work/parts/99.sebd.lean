/-! SEA: a tilt, first one -/
section SEBD
variable {d e : Nat} {I J : Nat → Nat → Int32} {L L' : Nat → Nat → Int64} {pa pb pu pw : Option Nat} {m : Nat → Int32} {o : Nat}
theorem near_up {q : Nat} {z : Int} (h : nearK I) (h1 : -100000 ≤ z) (h2 : z ≤ 200000) : nearK (j_up I 82 q (vI z)) := by
  intro q' hq
  rw [j_up_own]
  by_cases w : q' = q
  · rw [if_pos w]; exact ⟨z, rfl, h1, h2⟩
  · rw [if_neg w]; exact h q' hq
/-- the hull's five sums may differ -/
def hmF (L L' : Nat → Nat → Int64) : Prop := (∀ c, c ≠ 72 → L' c = L c) ∧ ∀ j, j < 10 ∨ 14 < j → L' 72 j = L 72 j
/-- the sea's level, first one -/
theorem seal_c (h : seaC m o I J L) {b c : Int} (hb : -2048 ≤ b ∧ b ≤ 2048) (hc : -2048 ≤ c ∧ c ≤ 2048) : ∃ L', (∀ c, c ≠ 72 → L' c = L c) ∧ jv (d + 1) 34 0 [some (.ref 72), some (.int ((1 : Int32) ||| (nI o <<< ((1 : Int32) &&& 31)))), some (.int (nI 0)), some (.long (lI (WT m o))), none, some (.int (vI b)), some (.int (vI c)), none, none, none, none, none, none] [] (shC, I, L, pX pa pb pu pw) = some (some (.int (vI (seaL m o (WT m o) b c))), (shC, j_up I 82 0 (vI (seaL m o (WT m o) b c)), L', pX pa pb pu pw)) ∧ -100000 ≤ seaL m o (WT m o) b c ∧ seaL m o (WT m o) b c ≤ 200000 ∧ VW m o 0 (seaL m o (WT m o) b c) b c ≤ WT m o := by
  obtain ⟨⟨h1, h2, h3, h4⟩, hE, hB, hn, -⟩ := h
  have hD := hE.D h1 (bt := hBt m o) (fun k hk => ⟨hB k hk, hBt_b h1 o hk⟩)
  obtain ⟨nr, n1, n2, n3⟩ := hn 0 (by decide)
  have wb := WT_b h1 o
  obtain ⟨be, L1, r1, r2, r3⟩ := level_c (d := d) (L := L) (pa := pa) (pb := pb) (pu := pu) (pw := pw) hD hb hc (l1 := (1 : Int32) ||| (nI o <<< ((1 : Int32) &&& 31))) (sb := sbO o) (fun q hq => set_sea h4 hq) (M := fun a => VW m o 0 a b c) (R := fun a => VW m o 0 (a + 1) b c - VW m o 0 a b c) (fun a => (wM_V h1 a b c).symm) (fun a => by rw [wMA_step]; show _ = wM_ (sbO o) m (hBt m o) (a + 1) b c - wM_ (sbO o) m (hBt m o) a b c; rw [wM_V h1, wM_V h1]) (most := WT m o) (fun a _ _ => by have := VW_b h1 h2 h3 a b c; exact ⟨by omega, by omega⟩) (fun a _ _ => by have := VW_b h1 h2 h3 a b c; have := VW_b h1 h2 h3 (a + 1) b c; exact ⟨by omega, by omega⟩) (by omega) (by show VW m o 0 (-100000) b c ≤ _; rw [VW_low h1 hb hc]; omega) (q := 0) (by decide) n1 n2 n3
  have : seaL m o (WT m o) b c = be := lvl_eq (fun _ _ ha => VW_mono h1 h2 h3 b c ha) r2
  rw [this]
  obtain ⟨c1, c2, c3, c4, c5⟩ := r2
  refine ⟨L1, fun c hc => ?_, r1, c1, by omega, c4⟩
  rcases r3 with z | ⟨x, y, z⟩
  · rw [z]
  · rw [z, meL_c _ _ hc]
/-- a liquid's level, first one -/
theorem liq_c (h : seaC m o I J L) {p : Nat} (hp : p < 16) (hl : hasL m o p) {b c : Int} (hb : -2048 ≤ b ∧ b ≤ 2048) (hc : -2048 ≤ c ∧ c ≤ 2048) : ∃ L', (∀ c, c ≠ 72 → L' c = L c) ∧ jv (d + 1) 34 0 [some (.ref 72), some (.int ((1 : Int32) <<< (nI (p + 1) &&& 31))), some (.int (nI (p + 1))), some (.long (lI (64 * mv m (400 + p * 2)))), none, some (.int (vI b)), some (.int (vI c)), none, none, none, none, none, none] [] (shC, I, L, pX pa pb pu pw) = some (some (.int (vI (liqL m p b c))), (shC, j_up I 82 (p + 1) (vI (liqL m p b c)), L', pX pa pb pu pw)) ∧ -100000 ≤ liqL m p b c ∧ liqL m p b c ≤ 200000 := by
  obtain ⟨⟨h1, h2, h3, h4⟩, hE, hB, hn, -⟩ := h
  have hD := hE.D h1 (bt := hBt m o) (fun k hk => ⟨hB k hk, hBt_b h1 o hk⟩)
  obtain ⟨nr, n1, n2, n3⟩ := hn (p + 1) (by omega)
  obtain ⟨x, y, x1, y1, m0, m1⟩ := h1.fill hp
  have e0 : (64 * mv m (400 + p * 2) : Int) = 64 * x := by rw [mv_n m0 (by omega)]
  obtain ⟨be, L1, r1, r2, r3⟩ := level_c (d := d) (L := L) (pa := pa) (pb := pb) (pu := pu) (pw := pw) hD hb hc (l1 := (1 : Int32) <<< (nI (p + 1) &&& 31)) (sb := sb1 p) (fun q hq => set_one hp hq) (M := fun a => LW m p 0 a b c) (R := fun a => LW m p 0 (a + 1) b c - LW m p 0 a b c) (fun a => (wM_L hp hl.2 a b c).symm) (fun a => by rw [wMA_step]; show _ = wM_ (sb1 p) m (hBt m o) (a + 1) b c - wM_ (sb1 p) m (hBt m o) a b c; rw [wM_L hp hl.2, wM_L hp hl.2]) (most := 64 * mv m (400 + p * 2)) (fun a _ _ => by have := LW_b h1 hp a b c; exact ⟨by omega, by omega⟩) (fun a _ _ => by have := LW_b h1 hp a b c; have := LW_b h1 hp (a + 1) b c; exact ⟨by omega, by omega⟩) (by rw [e0]; omega) (by show LW m p 0 (-100000) b c ≤ _; rw [LW_low h1 hb hc hp, e0]; omega) (q := p + 1) (by omega) n1 n2 n3
  rw [liq_ex h1 hp hb hc r2]
  obtain ⟨c1, c2, c3, c4, c5⟩ := r2
  refine ⟨L1, fun c hc => ?_, r1, c1, by omega⟩
  rcases r3 with z | ⟨x, y, z⟩
  · rw [z]
  · rw [z, meL_c _ _ hc]
/-- what a tilt leaves alone -/
def tiF (I I' : Nat → Nat → Int32) (L L' : Nat → Nat → Int64) : Prop := (∀ c, c ≠ 82 → I' c = I c) ∧ nearK I' ∧ (∀ c, c ≠ 60 → c ≠ 64 → c ≠ 72 → L' c = L c) ∧ ∀ j, j ≠ 8 → L' 60 j = L 60 j
theorem seaC.fr {I' : Nat → Nat → Int32} {L' : Nat → Nat → Int64} (h : seaC m o I J L) (f : tiF I I' L L') : seaC m o I' J L' := by
  obtain ⟨⟨h1, h2, h3, h4⟩, hE, hB, hn, h5, h6, h7, ⟨h8, h9, h10⟩, h11, h12, h13⟩ := h
  obtain ⟨f1, f2, f3, f4⟩ := f
  refine ⟨⟨h1.fr (fun q _ => by rw [f1 2 (by decide)]), h2, h3, h4⟩, ⟨fun i hi => ?_, fun k hk => ?_⟩, fun k hk => ?_, f2, ?_, fun p hp => ?_, ?_, ⟨?_, ?_, ?_⟩, fun p hp => ?_, ?_, ?_⟩
  · rw [f1 73 (by decide), f1 74 (by decide)]; exact hE.1 i hi
  · rw [f1 75 (by decide), f1 76 (by decide), f1 77 (by decide), f1 78 (by decide), f1 79 (by decide), f1 80 (by decide)]; exact hE.2 k hk
  · rw [f1 81 (by decide)]; exact hB k hk
  · rw [f1 60 (by decide)]; exact h5
  · rw [f1 60 (by decide)]; exact h6 p hp
  · rw [f4 7 (by decide)]; exact h7
  · rw [f3 63 (by decide) (by decide) (by decide)]; exact h8
  · rw [f3 63 (by decide) (by decide) (by decide)]; exact h9
  · rw [f3 63 (by decide) (by decide) (by decide)]; exact h10
  · rw [f3 65 (by decide) (by decide) (by decide), f3 66 (by decide) (by decide) (by decide)]; exact h11 p hp
  · rw [f3 62 (by decide) (by decide) (by decide)]; exact h12
  · rw [f3 62 (by decide) (by decide) (by decide)]; exact h13
theorem tiF.rfl' (h : nearK I) : tiF I I L L := ⟨fun _ _ => rfl, h, fun _ _ _ _ => rfl, fun _ _ => rfl⟩
theorem tiF.trans {I1 I2 : Nat → Nat → Int32} {L1 L2 : Nat → Nat → Int64} (a : tiF I I1 L L1) (b : tiF I1 I2 L1 L2) : tiF I I2 L L2 := ⟨fun c h => by rw [b.1 c h, a.1 c h], b.2.1, fun c h1 h2 h3 => by rw [b.2.2.1 c h1 h2 h3, a.2.2.1 c h1 h2 h3], fun j hj => by rw [b.2.2.2 j hj, a.2.2.2 j hj]⟩
/-- what it sets -/
def tiP (m : Nat → Int32) (o : Nat) (b c : Int) (L : Nat → Nat → Int64) : Prop := L 60 8 = lI (VA m o 0 b c) ∧ L 64 0 = lI (XA m o 1 b c) ∧ L 64 1 = lI (XA m o 2 b c) ∧ L 64 2 = lI (XA m o 3 b c)
theorem tilt_c (h : seaC m o I J L) {b c : Int} (hb : -2048 ≤ b ∧ b ≤ 2048) (hc : -2048 ≤ c ∧ c ≤ 2048) : ∃ I' L', tiF I I' L L' ∧ tiP m o b c L' ∧ jv (d + 2) 108 0 [some (.ref 60), some (.int (vI b)), some (.int (vI c)), none, none, none] [] (shC, I, L, pX pa pb pu pw) = some (some (.int (vI (seaL m o (WT m o) b c))), (shC, I', L', pX pa pb pu pw)) := by
  have liqs : ∀ (r p : Nat) (I1 : Nat → Nat → Int32) (L1 : Nat → Nat → Int64) (X Y Z : Int) (l3 : Int32) (o5 : Option Value), p + r = 16 → seaC m o I1 J L1 → L1 64 0 = lI X → L1 64 1 = lI Y → L1 64 2 = lI Z → ∃ I2 L2, tiF I1 I2 L1 L2 ∧ L2 60 8 = L1 60 8 ∧ L2 64 0 = lI (X - sZ (gWW m o 1 b c) p r) ∧ L2 64 1 = lI (Y - sZ (gWW m o 2 b c) p r) ∧ L2 64 2 = lI (Z - sZ (gWW m o 3 b c) p r) ∧ jv (d + 2) 108 110 [some (.ref 60), some (.int (vI b)), some (.int (vI c)), some (.int l3), some (.int (nI p)), o5] [] (shC, I1, L1, pX pa pb pu pw) = some (some (.int l3), (shC, I2, L2, pX pa pb pu pw)) := by
    intro r
    induction r with
    | zero =>
      intro p I1 L1 X Y Z l3 o5 hp h x y z
      refine ⟨I1, L1, tiF.rfl' h.2.2.2.1, rfl, ?_, ?_, ?_, ?_⟩
      · show _ = lI (X - 0); rw [Int.sub_zero]; exact x
      · show _ = lI (Y - 0); rw [Int.sub_zero]; exact y
      · show _ = lI (Z - 0); rw [Int.sub_zero]; exact z
      · rw [B108_110, if_neg (show ¬ nI p < 16 from nI_nlt (b := 16) (by omega) (by omega))]
    | succ r ih =>
      intro p I1 L1 X Y Z l3 o5 hp h x y z
      have hp16 : p < 16 := by omega
      have jp : j_in (nI p) 16 = true := j_in_nI hp16 (by decide)
      have cp : (nI p).toNatClampNeg = p := nI_clamp (by omega)
      obtain ⟨-, -, -, hn, -, hb6, -, -, h65, -⟩ := id h
      have has : jv (d + 1) 97 0 [some (.ref 60), some (.int (nI p))] [] (shC, I1, L1, pX pa pb pu pw) = some (some (.int (if hasL m o p then 1 else 0)), (shC, I1, L1, pX pa pb pu pw)) := by
        rw [B97_0]
        by_cases z : hasL m o p
        · rw [if_neg (fun y => by
            have := (i_shr _ (by omega : p < 32)).mp y
            rw [hb6 p hp16, decide_eq_true z] at this
            cases this), if_pos z, B97_16, if_pos bl_1]
        · rw [if_pos ((i_shr _ (by omega : p < 32)).mpr (by rw [hb6 p hp16, decide_eq_false z])), if_neg z, B97_16, if_pos bl_0]
      rw [B108_110, if_pos (show nI p < 16 from nI_lt (b := 16) (by omega) (by decide)), jgo_some (d := d + 1) rfl has, sZ_front, sZ_front, sZ_front]
      dsimp only [Option.toList_some, List.cons_append, List.nil_append]
      rw [B108_123]
      by_cases hl : hasL m o p
      · obtain ⟨L2, g1, g2, g3, g4⟩ := liq_c (d := d) (pa := pa) (pb := pb) (pu := pu) (pw := pw) h hp16 hl hb hc
        have eg : ∀ u, gWW m o u b c p = LW m p u (liqL m p b c) b c * mv m (401 + p * 2) := fun u => if_pos hl
        rw [if_pos hl, if_neg (show ¬ (1 : Int32) = 0 by decide), if_pos jp, cp, (h65 p hp16).1, nI_1, jgo_some (d := d + 1) rfl g2, eg, eg, eg]
        dsimp only [Option.toList_some, List.cons_append, List.nil_append]
        have f1 : tiF I1 (j_up I1 82 (p + 1) (vI (liqL m p b c))) L1 L2 := ⟨fun c hc => by rw [j_up_cell _ hc], near_up hn g3 g4, fun c _ _ c3 => g1 c c3, fun j _ => by rw [g1 60 (by decide)]⟩
        have h2 := h.fr f1
        obtain ⟨⟨k1, k2, k3, k4⟩, kE, kB, -⟩ := id h2
        have hD := kE.D k1 (bt := hBt m o) (fun k hk => ⟨kB k hk, hBt_b k1 o hk⟩)
        have wg := weigh_c (d := d + 1) (L := L2) (pa := pa) (pb := pb) (pu := pu) (pw := pw) hD (a := liqL m p b c) (b := b) (c := c) (by omega) hb hc (t0 := 0) (t1 := 15) (by decide) (by decide) (l1 := (1 : Int32) <<< (nI (p + 1) &&& 31)) (sb := sb1 p) (fun q hq => set_one hp16 hq)
        have e1 : wB (sb1 p) (hLo m) (hHi m) (hSF m) (hST m) (hCF m) (hCT m) (hFl m) (hRf m) (hBt m o) (liqL m p b c) b c 0 15 1 17 = LW m p 1 (liqL m p b c) b c := wB_L k1 hp16 hl.2 _ _ _ 1
        have e2 : wB (sb1 p) (hLo m) (hHi m) (hSF m) (hST m) (hCF m) (hCT m) (hFl m) (hRf m) (hBt m o) (liqL m p b c) b c 0 15 2 17 = LW m p 2 (liqL m p b c) b c := wB_L k1 hp16 hl.2 _ _ _ 2
        have e3 : wB (sb1 p) (hLo m) (hHi m) (hSF m) (hST m) (hCF m) (hCT m) (hFl m) (hRf m) (hBt m o) (liqL m p b c) b c 0 15 3 17 = LW m p 3 (liqL m p b c) b c := wB_L k1 hp16 hl.2 _ _ _ 3
        rw [e1, e2, e3] at wg
        generalize wB (sb1 p) (hLo m) (hHi m) (hSF m) (hST m) (hCF m) (hCT m) (hFl m) (hRf m) (hBt m o) (liqL m p b c) b c 0 15 0 17 = A0 at wg
        rw [B108_165]
        generalize hL3 : hmL L2 A0 (LW m p 1 (liqL m p b c) b c) (LW m p 2 (liqL m p b c) b c) (LW m p 3 (liqL m p b c) b c) = L3 at wg
        have l12 : L3 72 12 = lI (LW m p 1 (liqL m p b c) b c) := by rw [← hL3, hmL_own]; rfl
        have l13 : L3 72 13 = lI (LW m p 2 (liqL m p b c) b c) := by rw [← hL3, hmL_own]; rfl
        have l14 : L3 72 14 = lI (LW m p 3 (liqL m p b c) b c) := by rw [← hL3, hmL_own]; rfl
        have lc : ∀ c, c ≠ 72 → L3 c = L1 c := fun c hc => by rw [← hL3, hmL_c _ _ _ _ hc, g1 c hc]
        rw [show (0 : Int32) = nI 0 from rfl, show (15 : Int32) = nI 15 from rfl, jgo_some (d := d + 1) rfl wg]
        dsimp only [Option.toList_some, Option.toList_none, List.cons_append, List.nil_append]
        rw [B108_170, if_pos (by decide), if_pos jp, if_pos (by decide), if_pos (by decide), if_pos jp, if_pos (by decide), if_pos (by decide), if_pos jp, if_pos (by decide), cp]
        simp (decide := true) only [j_up_app, ↓reduceIte, show (0 : Int32).toNatClampNeg = 0 from rfl, show (1 : Int32).toNatClampNeg = 1 from rfl, show (2 : Int32).toNatClampNeg = 2 from rfl, l12, l13, l14, lc 64 (by decide), lc 66 (by decide), (h65 p hp16).2, x, y, z, lI_mul, lI_sub]
        generalize hL4 : j_up (j_up (j_up L3 64 0 (lI (X - LW m p 1 (liqL m p b c) b c * mv m (401 + p * 2)))) 64 1 (lI (Y - LW m p 2 (liqL m p b c) b c * mv m (401 + p * 2)))) 64 2 (lI (Z - LW m p 3 (liqL m p b c) b c * mv m (401 + p * 2))) = L4
        have c64 : ∀ c, c ≠ 64 → L4 c = L3 c := fun c hc => by rw [← hL4, j_up_cell _ hc, j_up_cell _ hc, j_up_cell _ hc]
        have f2 : tiF (j_up I1 82 (p + 1) (vI (liqL m p b c))) (j_up I1 82 (p + 1) (vI (liqL m p b c))) L2 L4 := ⟨fun _ _ => rfl, near_up hn g3 g4, fun c c1 c2 c3 => by rw [c64 c c2, lc c c3, g1 c c3], fun j _ => by rw [c64 60 (by decide), lc 60 (by decide), g1 60 (by decide)]⟩
        obtain ⟨I5, L5, i1, i2, i3, i4, i5, i6⟩ := ih (p + 1) (j_up I1 82 (p + 1) (vI (liqL m p b c))) L4 (X - LW m p 1 (liqL m p b c) b c * mv m (401 + p * 2)) (Y - LW m p 2 (liqL m p b c) b c * mv m (401 + p * 2)) (Z - LW m p 3 (liqL m p b c) b c * mv m (401 + p * 2)) l3 (some (.int ((1 : Int32) <<< (nI (p + 1) &&& 31)))) (by omega) (h2.fr f2) (by rw [← hL4, j_up_nq _ (Or.inr (by decide)), j_up_nq _ (Or.inr (by decide)), j_up_eq]) (by rw [← hL4, j_up_nq _ (Or.inr (by decide)), j_up_eq]) (by rw [← hL4, j_up_eq])
        refine ⟨I5, L5, (f1.trans f2).trans i1, ?_, ?_, ?_, ?_, ?_⟩
        · rw [i2, c64 60 (by decide), lc 60 (by decide)]
        · rw [i3]; congr 1; omega
        · rw [i4]; congr 1; omega
        · rw [i5]; congr 1; omega
        · rw [B108_242, nI_1]; exact i6
      · have eg : ∀ u, gWW m o u b c p = 0 := fun u => if_neg hl
        rw [if_neg hl, if_pos rfl, B108_242, nI_1, eg, eg, eg, Int.zero_add, Int.zero_add, Int.zero_add]
        exact ih (p + 1) I1 L1 X Y Z l3 o5 (by omega) h x y z
  obtain ⟨⟨k1, k2, k3, k4⟩, kE, kB, hn, ho, -, h7, ⟨h8, h9, h10⟩, -⟩ := id h
  obtain ⟨L1, g1, g2, g3, g4, -⟩ := seal_c (d := d) (pa := pa) (pb := pb) (pu := pu) (pw := pw) h hb hc
  generalize hlv : seaL m o (WT m o) b c = lv at *
  have f1 : tiF I (j_up I 82 0 (vI lv)) L L1 := ⟨fun c hc => by rw [j_up_cell _ hc], near_up hn g3 g4, fun c _ _ c3 => g1 c c3, fun j _ => by rw [g1 60 (by decide)]⟩
  have h2 := h.fr f1
  obtain ⟨⟨j1, -⟩, jE, jB, -⟩ := id h2
  have hD := jE.D j1 (bt := hBt m o) (fun k hk => ⟨jB k hk, hBt_b j1 o hk⟩)
  have wg := weigh_c (d := d + 1) (L := L1) (pa := pa) (pb := pb) (pu := pu) (pw := pw) hD (a := lv) (b := b) (c := c) (by omega) hb hc (t0 := 0) (t1 := 15) (by decide) (by decide) (l1 := (1 : Int32) ||| (nI o <<< ((1 : Int32) &&& 31))) (sb := sbO o) (fun q hq => set_sea k4 hq)
  have e0 : ∀ w, wB (sbO o) (hLo m) (hHi m) (hSF m) (hST m) (hCF m) (hCT m) (hFl m) (hRf m) (hBt m o) lv b c 0 15 w 17 = VA m o w b c := fun w => by
    unfold VA; rw [hlv]; exact wB_V k1 lv b c w
  rw [e0, e0, e0, e0] at wg
  generalize hL2 : hmL L1 (VA m o 0 b c) (VA m o 1 b c) (VA m o 2 b c) (VA m o 3 b c) = L2 at wg
  have l10 : L2 72 10 = lI (VA m o 0 b c) := by rw [← hL2, hmL_own]; rfl
  have l12 : L2 72 12 = lI (VA m o 1 b c) := by rw [← hL2, hmL_own]; rfl
  have l13 : L2 72 13 = lI (VA m o 2 b c) := by rw [← hL2, hmL_own]; rfl
  have l14 : L2 72 14 = lI (VA m o 3 b c) := by rw [← hL2, hmL_own]; rfl
  have lc : ∀ c, c ≠ 72 → L2 c = L c := fun c hc => by rw [← hL2, hmL_c _ _ _ _ hc, g1 c hc]
  have o1 : (j_up I 82 0 (vI lv)) 60 4 = nI o := by rw [j_up_cell _ (by decide)]; exact ho
  rw [B108_0, jgo_some (d := d + 1) rfl (B104_0 _ _ _ _ _ _ _)]
  dsimp only [Option.toList_some, Option.toList_none, List.cons_append, List.nil_append]
  rw [B108_8, ho, h7, show (0 : Int32) = nI 0 from rfl, jgo_some (d := d + 1) rfl g2]
  dsimp only [Option.toList_some, Option.toList_none, List.cons_append, List.nil_append]
  rw [B108_18, jgo_some (d := d + 1) rfl (B104_0 _ _ _ _ _ _ _), o1]
  dsimp only [Option.toList_some, Option.toList_none, List.cons_append, List.nil_append]
  rw [B108_27, show (0 : Int32) = nI 0 from rfl, show (15 : Int32) = nI 15 from rfl, jgo_some (d := d + 1) rfl wg]
  dsimp only [Option.toList_some, Option.toList_none, List.cons_append, List.nil_append]
  rw [B108_36, if_pos (by decide), if_pos (by decide), if_pos (by decide), if_pos (by decide), if_pos (by decide), if_pos (by decide)]
  simp (decide := true) only [j_up_app, ↓reduceIte, show (0 : Int32).toNatClampNeg = 0 from rfl, show (1 : Int32).toNatClampNeg = 1 from rfl, show (2 : Int32).toNatClampNeg = 2 from rfl, l10, l12, l13, l14, lc 63 (by decide), h8, h9, h10, lI_sub]
  generalize hL4 : j_up (j_up (j_up (j_up L2 60 8 (lI (VA m o 0 b c))) 64 0 (lI (VA m o 1 b c - fW m 1))) 64 1 (lI (VA m o 2 b c - fW m 2))) 64 2 (lI (VA m o 3 b c - fW m 3)) = L4
  have f2 : tiF (j_up I 82 0 (vI lv)) (j_up I 82 0 (vI lv)) L1 L4 := ⟨fun _ _ => rfl, near_up hn g3 g4, fun c c1 c2 c3 => by rw [← hL4, j_up_cell _ c2, j_up_cell _ c2, j_up_cell _ c2, j_up_cell _ c1, lc c c3, g1 c c3], fun j hj => by rw [← hL4, j_up_nq _ (Or.inl (by decide)), j_up_nq _ (Or.inl (by decide)), j_up_nq _ (Or.inl (by decide)), j_up_nq _ (Or.inr hj), lc 60 (by decide), g1 60 (by decide)]⟩
  obtain ⟨I5, L5, i1, i2, i3, i4, i5, i6⟩ := liqs 16 0 (j_up I 82 0 (vI lv)) L4 (VA m o 1 b c - fW m 1) (VA m o 2 b c - fW m 2) (VA m o 3 b c - fW m 3) (vI lv) none (by omega) (h2.fr f2) (by rw [← hL4, j_up_nq _ (Or.inr (by decide)), j_up_nq _ (Or.inr (by decide)), j_up_eq]) (by rw [← hL4, j_up_nq _ (Or.inr (by decide)), j_up_eq]) (by rw [← hL4, j_up_eq])
  refine ⟨I5, L5, (f1.trans f2).trans i1, ⟨?_, ?_, ?_, ?_⟩, ?_⟩
  · rw [i2, ← hL4, j_up_nq _ (Or.inl (by decide)), j_up_nq _ (Or.inl (by decide)), j_up_nq _ (Or.inl (by decide)), j_up_eq]
  · rw [i3]; unfold XA WW; congr 1; omega
  · rw [i4]; unfold XA WW; congr 1; omega
  · rw [i5]; unfold XA WW; congr 1; omega
  · exact i6
/-- T and U by the latest tilt -/
theorem turn_0 (h : seaC m o I J L) {b c : Int} (ht : tiP m o b c L) (hb : -2048 ≤ b ∧ b ≤ 2048) : jv d 107 0 [some (.ref 60), some (.int 0), some (.int (vI b))] [] (shC, I, L, pX pa pb pu pw) = some (some (.long (tT m o b c)), (shC, I, L, pX pa pb pu pw)) := by
  obtain ⟨-, t1, t2, t3⟩ := ht
  obtain ⟨-, -, -, -, -, -, -, -, -, h12, h13⟩ := h
  rw [B107_0, if_pos (by decide), if_pos (by decide), if_pos (by decide), show (0 : Int32).toNatClampNeg = 0 from rfl, show (2 : Int32).toNatClampNeg = 2 from rfl, h12, t1, t3, vI_64' hb.1 hb.2, lI_mul, lI_mul, lI_add]
  rfl
theorem turn_1 (h : seaC m o I J L) {b c : Int} (ht : tiP m o b c L) (hc : -2048 ≤ c ∧ c ≤ 2048) : jv d 107 0 [some (.ref 60), some (.int 1), some (.int (vI c))] [] (shC, I, L, pX pa pb pu pw) = some (some (.long (tU m o b c)), (shC, I, L, pX pa pb pu pw)) := by
  obtain ⟨-, t1, t2, t3⟩ := ht
  obtain ⟨-, -, -, -, -, -, -, -, -, h12, h13⟩ := h
  rw [B107_0, if_pos (by decide), if_pos (by decide), if_pos (by decide), show (1 : Int32).toNatClampNeg = 1 from rfl, show (2 : Int32).toNatClampNeg = 2 from rfl, h13, t2, t3, vI_64' hc.1 hc.2, lI_mul, lI_mul, lI_add]
  rfl
end SEBD
