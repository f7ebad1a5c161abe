/-! SEA: lying down, first one -/
section SEBK
variable {d e : Nat} {I J : Nat → Nat → Int32} {L L' : Nat → Nat → Int64} {pa pb pu pw : Option Nat} {m : Nat → Int32} {o : Nat}
/-- what the first one's sums hang on -/
theorem seaC.gen {I' : Nat → Nat → Int32} {L' : Nat → Nat → Int64} (h : seaC m o I J L) (f2 : I' 2 = I 2) (f4 : I' 60 4 = I 60 4) (f5 : I' 60 5 = I 60 5) (f7 : ∀ c, 73 ≤ c → c ≤ 81 → I' c = I c) (fn : nearK I') (l6 : L' 60 7 = L 60 7) (l : ∀ c, c = 62 ∨ c = 63 ∨ c = 65 ∨ c = 66 → L' c = L c) : seaC m o I' J L' := by
  obtain ⟨⟨h1, h2, h3, h4⟩, hE, hB, hn, h5, h6, h7, ⟨h8, h9, h10⟩, h11, h12, h13⟩ := h
  refine ⟨⟨h1.fr (fun q _ => by rw [f2]), h2, h3, h4⟩, ⟨fun i hi => ?_, fun k hk => ?_⟩, fun k hk => ?_, fn, ?_, fun p hp => ?_, ?_, ⟨?_, ?_, ?_⟩, fun p hp => ?_, ?_, ?_⟩
  · rw [f7 73 (by decide) (by decide), f7 74 (by decide) (by decide)]; exact hE.1 i hi
  · rw [f7 75 (by decide) (by decide), f7 76 (by decide) (by decide), f7 77 (by decide) (by decide), f7 78 (by decide) (by decide), f7 79 (by decide) (by decide), f7 80 (by decide) (by decide)]; exact hE.2 k hk
  · rw [f7 81 (by decide) (by decide)]; exact hB k hk
  · rw [f4]; exact h5
  · rw [f5]; exact h6 p hp
  · rw [l6]; exact h7
  · rw [l 63 (by decide)]; exact h8
  · rw [l 63 (by decide)]; exact h9
  · rw [l 63 (by decide)]; exact h10
  · rw [l 65 (by decide), l 66 (by decide)]; exact h11 p hp
  · rw [l 62 (by decide)]; exact h12
  · rw [l 62 (by decide)]; exact h13
/-- whether a space has a liquid, first one -/
theorem hasl_c (h : seaC m o I J L) {p : Nat} (hp : p < 16) : jv d 97 0 [some (.ref 60), some (.int (nI p))] [] (shC, I, L, pX pa pb pu pw) = some (some (.int (if hasL m o p then 1 else 0)), (shC, I, L, pX pa pb pu pw)) := by
  obtain ⟨-, -, -, hn, -, hb6, -⟩ := h
  rw [B97_0]
  by_cases z : hasL m o p
  · rw [if_neg (fun y => by
      have := (i_shr _ (by omega : p < 32)).mp y
      rw [hb6 p hp, decide_eq_true z] at this
      cases this), if_pos z, B97_16, if_pos bl_1]
  · rw [if_pos ((i_shr _ (by omega : p < 32)).mpr (by rw [hb6 p hp, decide_eq_false z])), if_neg z, B97_16, if_pos bl_0]
/-- what lying down leaves alone -/
def laF (I I' : Nat → Nat → Int32) (L L' : Nat → Nat → Int64) : Prop := (∀ c, c ≠ 67 → c ≠ 82 → I' c = I c) ∧ nearK I' ∧ (∀ c, c ≠ 60 → c ≠ 61 → c ≠ 64 → c ≠ 72 → L' c = L c) ∧ (∀ j, j ≠ 8 → L' 60 j = L 60 j) ∧ ∀ j, j < 5 ∨ 11 < j → L' 61 j = L 61 j
theorem seaC.la {I' : Nat → Nat → Int32} {L' : Nat → Nat → Int64} (h : seaC m o I J L) (f : laF I I' L L') : seaC m o I' J L' := h.gen (f.1 2 (by decide) (by decide)) (by rw [f.1 60 (by decide) (by decide)]) (by rw [f.1 60 (by decide) (by decide)]) (fun c c1 c2 => f.1 c (by omega) (by omega)) f.2.1 (f.2.2.2.1 7 (by decide)) (fun c hc => f.2.2.1 c (by omega) (by omega) (by omega) (by omega))
/-- what is told of the rest -/
def tdP (m : Nat → Int32) (o : Nat) (b c : Int) (L : Nat → Nat → Int64) : Prop := L 61 5 = lI (seaL m o (WT m o) b c) ∧ L 61 6 = lI b ∧ L 61 7 = lI c ∧ L 61 8 = lI (VA m o 0 b c) ∧ L 61 9 = lI (XA m o 1 b c) ∧ L 61 10 = lI (XA m o 2 b c) ∧ L 61 11 = lI (XA m o 3 b c)
theorem lay_down (h : seaC m o I J L) {b c : Int} (hb : -2048 ≤ b ∧ b ≤ 2048) (hc : -2048 ≤ c ∧ c ≤ 2048) : ∃ I' L', laF I I' L L' ∧ tdP m o b c L' ∧ (∀ p, p < 16 → hasL m o p → I' 67 p = vI (liqL m p b c)) ∧ jv (d + 3) 109 0 [some (.ref 60), some (.int (vI b)), some (.int (vI c)), none] [] (shC, I, L, pX pa pb pu pw) = some (none, (shC, I', L', pX pa pb pu pw)) := by
  have liqs : ∀ (r p : Nat) (I1 : Nat → Nat → Int32) (L1 : Nat → Nat → Int64), p + r = 16 → seaC m o I1 J L1 → (∀ q, q < p → hasL m o q → I1 67 q = vI (liqL m q b c)) → ∃ I2 L2, (∀ c, c ≠ 67 → c ≠ 82 → I2 c = I1 c) ∧ nearK I2 ∧ (∀ c, c ≠ 72 → L2 c = L1 c) ∧ (∀ q, q < 16 → hasL m o q → I2 67 q = vI (liqL m q b c)) ∧ jv (d + 3) 109 72 [some (.ref 60), some (.int (vI b)), some (.int (vI c)), some (.int (nI p))] [] (shC, I1, L1, pX pa pb pu pw) = some (none, (shC, I2, L2, pX pa pb pu pw)) := by
    intro r
    induction r with
    | zero =>
      intro p I1 L1 hp h hq
      have : p = 16 := by omega
      subst this
      exact ⟨I1, L1, fun _ _ _ => rfl, h.2.2.2.1, fun _ _ => rfl, hq, by rw [B109_72, if_neg (by decide)]⟩
    | succ r ih =>
      intro p I1 L1 hp h hq
      have hp16 : p < 16 := by omega
      have jp : j_in (nI p) 16 = true := j_in_nI hp16 (by decide)
      have cp : (nI p).toNatClampNeg = p := nI_clamp (by omega)
      obtain ⟨-, -, -, hn, -, -, -, -, h65, -⟩ := id h
      rw [B109_72, if_pos (show nI p < 16 from nI_lt (b := 16) (by omega) (by decide)), jgo_some (d := d + 2) rfl (hasl_c h hp16)]
      dsimp only [Option.toList_some, List.cons_append, List.nil_append]
      rw [B109_83]
      by_cases hl : hasL m o p
      · obtain ⟨L2, g1, g2, g3, g4⟩ := liq_c (d := d + 1) (pa := pa) (pb := pb) (pu := pu) (pw := pw) h hp16 hl hb hc
        rw [if_pos hl, if_neg (show ¬ (1 : Int32) = 0 by decide), if_pos jp, cp, (h65 p hp16).1, nI_1, jgo_some (d := d + 2) rfl g2]
        dsimp only [Option.toList_some, List.cons_append, List.nil_append]
        rw [B109_114, if_pos jp, cp, B109_115, nI_1]
        generalize hI2 : j_up (j_up I1 82 (p + 1) (vI (liqL m p b c))) 67 p (vI (liqL m p b c)) = I2
        have c2 : ∀ c, c ≠ 67 → c ≠ 82 → I2 c = I1 c := fun c c1 c2 => by rw [← hI2, j_up_cell _ c1, j_up_cell _ c2]
        have n2 : nearK I2 := fun q hq => by
          rw [← hI2, j_up_cell _ (by decide)]; exact near_up hn g3 g4 q hq
        have h2 : seaC m o I2 J L2 := h.gen (c2 2 (by decide) (by decide)) (by rw [c2 60 (by decide) (by decide)]) (by rw [c2 60 (by decide) (by decide)]) (fun c k1 k2 => c2 c (by omega) (by omega)) n2 (by rw [g1 60 (by decide)]) (fun c hc => g1 c (by omega))
        obtain ⟨I3, L3, i1, i2, i3, i4, i5⟩ := ih (p + 1) I2 L2 (by omega) h2 (fun q q1 q2 => by
          rw [← hI2, j_up_own]
          by_cases w : q = p
          · rw [if_pos w, w]
          · rw [if_neg w, j_up_cell _ (by decide)]; exact hq q (by omega) q2)
        exact ⟨I3, L3, fun c k1 k2 => by rw [i1 c k1 k2, c2 c k1 k2], i2, fun c k1 => by rw [i3 c k1, g1 c k1], i4, i5⟩
      · rw [if_neg hl, if_pos rfl, B109_115, nI_1]
        exact ih (p + 1) I1 L1 (by omega) h (fun q q1 q2 => by
          by_cases w : q = p
          · subst w; exact absurd q2 hl
          · exact hq q (by omega) q2)
  obtain ⟨I1, L1, t1, ⟨t2, t3, t4, t5⟩, t6⟩ := tilt_c (d := d) (pa := pa) (pb := pb) (pu := pu) (pw := pw) h hb hc
  obtain ⟨-, -, -, s3, s4, -⟩ := seal_c (d := d) (pa := pa) (pb := pb) (pu := pu) (pw := pw) h hb hc
  have h1 := h.fr t1
  generalize hlv : seaL m o (WT m o) b c = lv at *
  generalize hL2 : j_up (j_up (j_up (j_up (j_up (j_up (j_up L1 61 5 (lI lv)) 61 6 (lI b)) 61 7 (lI c)) 61 8 (lI (VA m o 0 b c))) 61 9 (lI (XA m o 1 b c))) 61 10 (lI (XA m o 2 b c))) 61 11 (lI (XA m o 3 b c)) = L2
  have c61 : ∀ c, c ≠ 61 → L2 c = L1 c := fun c hc => by rw [← hL2, j_up_cell _ hc, j_up_cell _ hc, j_up_cell _ hc, j_up_cell _ hc, j_up_cell _ hc, j_up_cell _ hc, j_up_cell _ hc]
  have r61 : ∀ j, L2 61 j = if j = 11 then lI (XA m o 3 b c) else if j = 10 then lI (XA m o 2 b c) else if j = 9 then lI (XA m o 1 b c) else if j = 8 then lI (VA m o 0 b c) else if j = 7 then lI c else if j = 6 then lI b else if j = 5 then lI lv else L1 61 j := fun j => by
    rw [← hL2, j_up_own, j_up_own, j_up_own, j_up_own, j_up_own, j_up_own, j_up_own]
  have h2 : seaC m o I1 J L2 := h1.gen rfl rfl rfl (fun _ _ _ => rfl) t1.2.1 (by rw [c61 60 (by decide)]) (fun c hc => c61 c (by omega))
  obtain ⟨I3, L3, i1, i2, i3, i4, i5⟩ := liqs 16 0 I1 L2 (by omega) h2 (fun q hq => by omega)
  have run : jv (d + 3) 109 0 [some (.ref 60), some (.int (vI b)), some (.int (vI c)), none] [] (shC, I, L, pX pa pb pu pw) = jv (d + 3) 109 72 [some (.ref 60), some (.int (vI b)), some (.int (vI c)), some (.int (nI 0))] [] (shC, I1, L2, pX pa pb pu pw) := by
    rw [B109_0, jgo_some (d := d + 2) rfl t6]
    dsimp only [Option.toList_some, List.cons_append, List.nil_append]
    rw [B109_11, if_pos (by decide), if_pos (by decide), if_pos (by decide), if_pos (by decide), vI_64 (z := lv) (by omega) (by omega), vI_64' hb.1 hb.2, vI_64' hc.1 hc.2]
    simp (decide := true) only [j_up_app, ↓reduceIte, show (5 : Int32).toNatClampNeg = 5 from rfl, show (6 : Int32).toNatClampNeg = 6 from rfl, show (7 : Int32).toNatClampNeg = 7 from rfl, show (8 : Int32).toNatClampNeg = 8 from rfl, t2]
    rw [B109_44, if_neg (by decide), if_pos (by decide), if_pos (by decide), B109_44, if_neg (by decide), if_pos (by decide), if_pos (by decide), B109_44, if_neg (by decide), if_pos (by decide), if_pos (by decide), B109_44, if_pos (by decide)]
    simp (decide := true) only [j_up_app, ↓reduceIte, show (0 : Int32).toNatClampNeg = 0 from rfl, show (0 + 1 : Int32).toNatClampNeg = 1 from rfl, show (0 + 1 + 1 : Int32).toNatClampNeg = 2 from rfl, show (9 + 0 : Int32).toNatClampNeg = 9 from rfl, show (9 + (0 + 1) : Int32).toNatClampNeg = 10 from rfl, show (9 + (0 + 1 + 1) : Int32).toNatClampNeg = 11 from rfl, t3, t4, t5]
    rw [← hL2]
    rfl
  refine ⟨I3, L3, ⟨fun c k1 k2 => by rw [i1 c k1 k2, t1.1 c k2], i2, fun c k1 k2 k3 k4 => by rw [i3 c k4, c61 c k2, t1.2.2.1 c k1 k3 k4], fun j hj => by rw [i3 60 (by decide), c61 60 (by decide), t1.2.2.2 j hj], fun j hj => ?_⟩, ?_, i4, by rw [run]; exact i5⟩
  · rw [i3 61 (by decide), r61, if_neg (by omega), if_neg (by omega), if_neg (by omega), if_neg (by omega), if_neg (by omega), if_neg (by omega), if_neg (by omega), t1.2.2.1 61 (by decide) (by decide) (by decide)]
  · unfold tdP
    rw [hlv, i3 61 (by decide), r61, r61, r61, r61, r61, r61, r61]
    exact ⟨rfl, rfl, rfl, rfl, rfl, rfl, rfl⟩
end SEBK
