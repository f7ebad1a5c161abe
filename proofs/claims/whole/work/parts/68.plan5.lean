/-! plan() of both -/
section PLAN5
variable {d e : Nat} {I J : Nat → Nat → Int32} {L L' : Nat → Nat → Int64} {pa pb pu pw : Option Nat} {dy hd cr fs : Nat → Nat} {bt : Nat → Int32} {HA CA : Nat}
theorem cnt_le (dy : Nat → Nat) : ∀ n, cnt dy n ≤ n := by
  intro n
  induction n with
  | zero => exact Nat.le_refl 0
  | succ n ih =>
    show cnt dy n + (if 0 < dy n then 1 else 0) ≤ n + 1
    split <;> omega
/-- what plan() changes -/
def pnF (I J I' J' : Nat → Nat → Int32) : Prop := (∀ c, c < 107 ∨ (107 < c ∧ c < 110) ∨ 115 < c → I' c = I c) ∧ (∀ f, f ≠ 1 → f ≠ 5 → f ≠ 8 → I' 107 f = I 107 f) ∧ (∀ c, 0 < c → c < 72 ∨ 77 < c → J' c = J c) ∧ (∀ f, f ≠ 120 → f ≠ 121 → J' 0 f = J 0 f)
theorem pnF.trans {I J I1 J1 I2 J2 : Nat → Nat → Int32} (h : pnF I J I1 J1) (g : pnF I1 J1 I2 J2) : pnF I J I2 J2 := ⟨fun c x => (g.1 c x).trans (h.1 c x), fun f x y z => (g.2.1 f x y z).trans (h.2.1 f x y z), fun c x y => (g.2.2.1 c x y).trans (h.2.2.1 c x y), fun f x y => (g.2.2.2 f x y).trans (h.2.2.2 f x y)⟩
def pnQ (dy : Nat → Nat) (L L' : Nat → Nat → Int64) (pa pb pu pw : Option Nat) (I J : Nat → Nat → Int32) : Option Value → jS → Option Value → jS → Prop := fun v S w T => ∃ I' J', v = none ∧ w = some (.int (J' 0 121)) ∧ S = (shC, I', L, pX pa pb pu pw) ∧ T = (shR, J', L', pR) ∧ pnF I J I' J' ∧ I' 107 1 = 1 ∧ J' 0 120 = 1 ∧ RP dy I' J'
theorem pn_loop : ∀ m t, t + m = 7 → ∀ (I J : Nat → Nat → Int32) (o3 : Option Value), pMod dy hd cr fs bt HA CA (I 2) → pMod dy hd cr fs bt HA CA (J 6) → rCst J → I 107 1 = 1 → I 107 5 = -1 → I 107 8 = nI (cnt dy t) → (∀ u, u < t → I 111 u = -1 ∧ I 113 u = -1) → (∀ x, x < 256 → I 114 x = 0 ∧ I 115 x = 0) → J 0 120 = 1 → J 0 121 = -2 → (∀ u, u < t → 0 < dy u → hd u ≤ HA ∧ cr u ≤ CA) → jW2 (jv (d + 13) 135 33 [some (.ref 107), some (.ref 1), some (.int (nI t))] [] (shC, I, L, pX pa pb pu pw)) (jv (e + 13) 356 25 [some (.ref 0), some (.int (nI (cnt dy t))), some (.int (nI t)), o3] [] (shR, J, L', pR)) (pnQ dy L L' pa pb pu pw I J) := by
  intro m
  induction m with
  | zero =>
    intro t ht I J o3 hI hJ hc h1 h5 h8 h11 h14 j20 j21 hh
    obtain rfl : t = 7 := by omega
    have hcl := cnt_le dy 7
    have key := pl_sim (d := d + 10 - cnt dy 7) (e := e + 9 - cnt dy 7) (L := L) (L' := L') (pa := pa) (pb := pb) (pu := pu) (pw := pw) (fs := fs) (bt := bt) hcl rfl hh (cnt dy 7) 0 (by omega) I J (fun _ => 0) (fun _ => 0) 0 hI hJ hc ⟨fun i hi => absurd hi (by omega), fun u hu => ⟨fun q => absurd q (ibit_0 u), fun ⟨i, hi, _⟩ => absurd hi (by omega)⟩, fun i hi => absurd hi (by omega), fun i hi => absurd hi (by omega), Nat.zero_le _, fun i j hi => absurd hi (by omega)⟩ (fun i hi => absurd hi (by omega)) ⟨fun i hi => absurd hi (by omega), fun t ht _ => (h11 t ht).2, fun x hx => h14 x hx, h8⟩ (Or.inl ⟨h5, j21⟩) (Or.inl (by rw [j21]; decide))
    rw [show d + 10 - cnt dy 7 + 2 + cnt dy 7 = d + 12 by omega, show e + 9 - cnt dy 7 + 3 + cnt dy 7 = e + 12 by omega] at key
    rw [B135_33, if_neg (by decide), B356_25, if_neg (by decide)]
    refine jW2_go rfl rfl key ?_
    rintro v S w T ⟨I2, J2, rfl, rfl, rfl, rfl, ⟨y1, y2, y3, y4, y5, y6, y7, y8⟩, hR⟩
    dsimp only [Option.toList_none, List.nil_append]
    rw [B135_127, B356_130]
    exact jW2_some ⟨I2, J2, rfl, rfl, rfl, rfl, ⟨y1, fun f x y z => y2 f y, y6, fun f x y => y7 f y⟩, by rw [y2 1 (by decide)]; exact h1, by rw [y7 120 (by decide)]; exact j20, hR⟩
  | succ m ih =>
    intro t ht I J o3 hI hJ hc h1 h5 h8 h11 h14 j20 j21 hh
    have ht7 : t < 7 := by omega
    have hcl := cnt_le dy t
    obtain ⟨i1, i2, i3, i4, i5⟩ := id hI
    obtain ⟨k1, k2, k3, _, p5, p6, p7, _, p9⟩ := i5 t ht7
    obtain ⟨m1, m2, m3, m4, m5⟩ := id hJ
    obtain ⟨_, _, _, _, n5, n6, n7, _, _⟩ := m5 t ht7
    have jt : j_in (nI t) 7 = true := j_in_nI ht7 (by decide)
    have q0 : j_in (nI (844 + t * 5)) 1189 = true := j_in_nI (by omega) (by decide)
    have a1 : nI (844 + t * 5) + 1 = nI (845 + t * 5) := by rw [nI_1, show 844 + t * 5 + 1 = 845 + t * 5 by omega]
    have a2 : nI (844 + t * 5) + 2 = nI (846 + t * 5) := by rw [show nI (844 + t * 5) + 2 = nI (844 + t * 5 + 2) from nI_add _ 2, show 844 + t * 5 + 2 = 846 + t * 5 by omega]
    have q1 : j_in (nI (845 + t * 5)) 1189 = true := j_in_nI (by omega) (by decide)
    have q2 : j_in (nI (846 + t * 5)) 1189 = true := j_in_nI (by omega) (by decide)
    have q6 : j_in (nI 6) 1189 = true := j_in_nI (by decide) (by decide)
    have q7 : j_in (nI 7) 1189 = true := j_in_nI (by decide) (by decide)
    have w0 : (nI (844 + t * 5)).toNatClampNeg = 844 + t * 5 := nI_clamp (by omega)
    have w1 : (nI (845 + t * 5)).toNatClampNeg = 845 + t * 5 := nI_clamp (by omega)
    have w2 : (nI (846 + t * 5)).toNatClampNeg = 846 + t * 5 := nI_clamp (by omega)
    have w6 : (nI 6).toNatClampNeg = 6 := rfl
    have w7 : (nI 7).toNatClampNeg = 7 := rfl
    generalize hI1 : j_up (j_up I 111 t (-1)) 113 t (-1) = I1
    have g1 : ∀ c, c ≠ 111 → c ≠ 113 → I1 c = I c := fun c x y => by rw [← hI1, j_up_cell _ y, j_up_cell _ x]
    have g11 : ∀ u, u < t + 1 → I1 111 u = -1 ∧ I1 113 u = -1 := fun u hu => by
      rw [← hI1, j_up_cell _ (by decide), j_up_own, j_up_own, j_up_cell _ (by decide)]
      by_cases hut : u = t
      · rw [if_pos hut, if_pos hut]; exact ⟨rfl, rfl⟩
      · rw [if_neg hut, if_neg hut]; exact h11 u (by omega)
    have hF1 : pnF I J I1 J := ⟨fun c x => g1 c (by omega) (by omega), fun f x y z => by rw [g1 107 (by decide) (by decide)], fun _ _ _ => rfl, fun _ _ _ => rfl⟩
    have hpI1 : pMod dy hd cr fs bt HA CA (I1 2) := by rw [g1 2 (by decide) (by decide)]; exact hI
    have e2 : I1 2 = I 2 := g1 2 (by decide) (by decide)
    rw [B135_33, if_pos (show nI t < (7 : Int32) from nI_lt ht7 (by decide)), if_pos jt, if_pos jt, nI_clamp (n := t) (by omega), hI1, g_of1_10_0 ht7, e2, p5, B356_25, if_pos (show nI t < (7 : Int32) from nI_lt ht7 (by decide)), g_at_10_0 hc]
    dsimp only [Option.toList_some, List.cons_append, List.nil_append]
    rw [B135_61, B356_39, if_pos q0, w0, n5]
    have ecs : cnt dy (t + 1) = cnt dy t + (if 0 < dy t then 1 else 0) := rfl
    by_cases h0 : 0 < dy t
    · have hz : (0 : Int32) < nI (dy t) := nI_lt (a := 0) h0 (by omega)
      have ec : cnt dy (t + 1) = cnt dy t + 1 := by rw [ecs, if_pos h0]
      generalize hI2 : j_up I1 107 8 (I1 107 8 + 1) = I2
      have x1 : ∀ c, c ≠ 107 → I2 c = I1 c := fun c x => by rw [← hI2, j_up_cell _ x]
      have x7 : ∀ f, I2 107 f = if f = 8 then nI (cnt dy (t + 1)) else I 107 f := fun f => by rw [← hI2, j_up_own, g1 107 (by decide) (by decide), h8, nI_1, ec]
      have e22 : I2 2 = I 2 := by rw [x1 2 (by decide), e2]
      have hF2 : pnF I J I2 J := ⟨fun c x => by rw [x1 c (by omega), g1 c (by omega) (by omega)], fun f x y z => by rw [x7, if_neg z], fun _ _ _ => rfl, fun _ _ _ => rfl⟩
      have stop : jW2 (some (none, (shC, I2, L, pX pa pb pu pw))) (some (some (.int (-2)), (shR, J, L', pR))) (pnQ dy L L' pa pb pu pw I J) := jW2_some ⟨I2, J, rfl, by rw [j21], rfl, rfl, hF2, by rw [x7]; exact h1, j20, Or.inl ⟨by rw [x7]; exact h5, j21⟩⟩
      rw [if_pos hz, if_pos hz, g_of1_10_1 ht7, e22, p6, B356_55, if_pos q0, w0, n5, if_pos hz, a1, if_pos q1, w1, n6, g_at_0_6 hc]
      dsimp only [Option.toList_some, List.cons_append, List.nil_append]
      rw [B135_82, g_of1_0_6, e22, i3, B356_86, if_pos q6, w6, m3]
      dsimp only [Option.toList_some, List.cons_append, List.nil_append]
      rw [B135_90]
      by_cases hbad : HA < hd t
      · rw [if_pos (nI_lt hbad (by omega)), if_pos (nI_lt hbad (by omega)), B135_112, B356_114]
        exact stop
      · rw [if_neg (nI_nlt (by omega) (by omega)), if_neg (nI_nlt (by omega) (by omega)), g_of1_10_2 ht7, e22, p7, a2, if_pos q2, w2, n7, g_at_0_7 hc]
        dsimp only [Option.toList_some, List.cons_append, List.nil_append]
        rw [B135_101, g_of1_0_7, e22, i4, B356_110, if_pos q7, w7, m4]
        dsimp only [Option.toList_some, List.cons_append, List.nil_append]
        rw [B135_109]
        by_cases hbad2 : CA < cr t
        · rw [if_pos (nI_lt hbad2 (by omega)), if_pos (nI_lt hbad2 (by omega)), B135_112, B356_114]
          exact stop
        · rw [if_neg (nI_nlt (by omega) (by omega)), if_neg (nI_nlt (by omega) (by omega)), B135_113, B356_117, nI_1 t, nI_1, ← ec]
          refine jW2_mono (ih (t + 1) (by omega) I2 J _ (by rw [e22]; exact hI) hJ hc (by rw [x7]; exact h1) (by rw [x7]; exact h5) (by rw [x7, if_pos rfl]) (fun u hu => by rw [x1 111 (by decide), x1 113 (by decide)]; exact g11 u hu) (fun x hx => by rw [x1 114 (by decide), x1 115 (by decide), g1 114 (by decide) (by decide), g1 115 (by decide) (by decide)]; exact h14 x hx) j20 j21 (fun u hu hu0 => by
            by_cases hut : u = t
            · rw [hut]; exact ⟨by omega, by omega⟩
            · exact hh u (by omega) hu0)) ?_
          rintro v S w T ⟨I3, J3, rfl, rfl, rfl, rfl, hF3, r1, r2, r3⟩
          exact ⟨I3, J3, rfl, rfl, rfl, rfl, hF2.trans hF3, r1, r2, r3⟩
    · have hz : ¬ (0 : Int32) < nI (dy t) := nI_nlt (a := 0) (b := dy t) (by omega) (by decide)
      have ec : cnt dy (t + 1) = cnt dy t := by rw [ecs, if_neg h0, Nat.add_zero]
      have e00 : nI (cnt dy t) + 0 = nI (cnt dy t) := Int32.add_zero _
      rw [if_neg hz, if_neg hz, B135_113, B356_55, if_pos q0, w0, n5, if_neg hz, B356_117, nI_1 t, e00, ← ec]
      refine jW2_mono (ih (t + 1) (by omega) I1 J _ hpI1 hJ hc (by rw [g1 107 (by decide) (by decide)]; exact h1) (by rw [g1 107 (by decide) (by decide)]; exact h5) (by rw [g1 107 (by decide) (by decide), ec]; exact h8) g11 (fun x hx => by rw [g1 114 (by decide) (by decide), g1 115 (by decide) (by decide)]; exact h14 x hx) j20 j21 (fun u hu hu0 => by
        by_cases hut : u = t
        · rw [hut] at hu0; exact absurd hu0 h0
        · exact hh u (by omega) hu0)) ?_
      rintro v S w T ⟨I3, J3, rfl, rfl, rfl, rfl, hF3, r1, r2, r3⟩
      exact ⟨I3, J3, rfl, rfl, rfl, rfl, hF1.trans hF3, r1, r2, r3⟩
theorem RP_plan {dy : Nat → Nat} (h : RP dy I J) (hm : ∀ t, t < 7 → J 6 (844 + t * 5) = nI (dy t) ∧ dy t ≤ 20) : planRel I J := by
  rcases h with ⟨h1, h2⟩ | ⟨E, h1, h2, h3, h4⟩
  · left
    rw [h1, h2]
    exact ⟨by decide, by decide⟩
  · right
    refine ⟨by rw [h2]; exact nI_pos (by omega), by rw [h2, h3], fun t ht => ?_⟩
    obtain ⟨m1, m2⟩ := hm t ht
    obtain ⟨q1, q2⟩ := h4 t ht
    rw [m1]
    refine ⟨fun h0 => ?_, fun h0 => ?_⟩
    · have : dy t = 0 := (nI_eq (b := 0) (by omega) (by decide)).mp h0
      rw [q1 this]; decide
    · have hp : 0 < dy t := by
        rcases Nat.eq_zero_or_pos (dy t) with z | z
        · exact absurd (by rw [z]; rfl) h0
        · exact z
      obtain ⟨r1, r2, k, hk, r3⟩ := q2 hp
      exact ⟨by rw [r3]; exact nI_pos (by omega), r1, r2⟩
theorem plan_sim (hI : pMod dy hd cr fs bt HA CA (I 2)) (hJ : pMod dy hd cr fs bt HA CA (J 6)) (hc : rCst J) (h0 : I 0 11 = 0) (h1 : J 0 18 = 0) : jW2 (jv (d + 14) 211 0 [some (.ref 0)] [] (shC, I, L, pX pa pb pu pw)) (jv (e + 13) 356 0 [some (.ref 0), none, none, none] [] (shR, J, L', pR)) (fun v S w T => ∃ r I' J', v = some (.int r) ∧ w = some (.int r) ∧ S = (shC, I', L, pX pa pb pu pw) ∧ T = (shR, J', L', pR) ∧ (∀ c, c < 107 ∨ (107 < c ∧ c < 110) ∨ 116 < c → I' c = I c) ∧ (∀ f, f ≠ 1 → f ≠ 5 → f ≠ 8 → I' 107 f = I 107 f) ∧ (∀ f, I' 116 f = if f = 10 then 0 else I 116 f) ∧ (∀ c, 0 < c → c < 72 ∨ 77 < c → J' c = J c) ∧ (∀ f, f ≠ 120 → f ≠ 121 → J' 0 f = J 0 f) ∧ I' 107 1 = 1 ∧ J' 0 120 = 1 ∧ planRel I' J') := by
  rw [B211_0, if_pos h0, if_pos nb0, B356_0, if_pos h1, if_pos nb1]
  generalize hJ1 : j_up (j_up J 0 120 1) 0 121 (-2) = J1
  have b0 : ∀ c, c ≠ 0 → J1 c = J c := fun c x => by rw [← hJ1, j_up_cell _ x, j_up_cell _ x]
  have b1 : ∀ f, J1 0 f = if f = 121 then -2 else if f = 120 then 1 else J 0 f := fun f => by rw [← hJ1, j_up_own, j_up_own]
  have c1 : rCst J1 := by
    obtain ⟨g1, g2, g3, g4, g5⟩ := hc
    exact ⟨fun t ht => by rw [b0 1 (by decide)]; exact g1 t ht, fun t ht => by rw [b0 2 (by decide)]; exact g2 t ht, fun t ht => by rw [b0 3 (by decide)]; exact g3 t ht, fun t ht => by rw [b0 4 (by decide)]; exact g4 t ht, fun t ht => by rw [b0 5 (by decide)]; exact g5 t ht⟩
  generalize hI1 : j_up (j_up (j_up (j_up I 116 10 0) 107 1 1) 107 5 (-1)) 107 8 0 = I1
  have a0 : ∀ c, c ≠ 107 → c ≠ 116 → I1 c = I c := fun c x y => by rw [← hI1, j_up_cell _ x, j_up_cell _ x, j_up_cell _ x, j_up_cell _ y]
  have a6 : ∀ f, I1 116 f = if f = 10 then 0 else I 116 f := fun f => by rw [← hI1, j_up_cell _ (by decide), j_up_cell _ (by decide), j_up_cell _ (by decide), j_up_own]
  have a7 : ∀ f, I1 107 f = if f = 8 then 0 else if f = 5 then -1 else if f = 1 then 1 else I 107 f := fun f => by rw [← hI1, j_up_own, j_up_own, j_up_own, j_up_cell _ (by decide)]
  generalize hI2 : va_up (va_up I1 114 (j_fill (I1 114) (fun _ => 0) 256)) 115 (j_fill (va_up I1 114 (j_fill (I1 114) (fun _ => 0) 256) 115) (fun _ => 0) 256) = I2
  have f0 : ∀ c, c ≠ 114 → c ≠ 115 → I2 c = I1 c := fun c x y => by rw [← hI2, va_up_ne _ _ y, va_up_ne _ _ x]
  have f1 : ∀ x, x < 256 → I2 114 x = 0 ∧ I2 115 x = 0 := fun x hx => by
    rw [← hI2, va_up_ne _ _ (show (114 : Nat) ≠ 115 by decide), va_up_self, va_up_self]
    unfold j_fill
    rw [if_pos hx, if_pos hx]
    exact ⟨rfl, rfl⟩
  have e1 : jv (d + 13) 135 0 [some (.ref 107), some (.ref 1), none] [] (shC, j_up I 116 10 0, L, pX pa pb pu pw) = jv (d + 13) 135 33 [some (.ref 107), some (.ref 1), some (.int (nI 0))] [] (shC, I2, L, pX pa pb pu pw) := by
    rw [B135_0, if_pos nb1, hI1, jgo_some (d := d + 12) rfl (fill_int (d := d + 12) (a := 114) (n := 256) rfl (by decide) 0 none none _ _ _)]
    dsimp only [Option.toList_none, List.nil_append]
    rw [B135_23, jgo_some (d := d + 12) rfl (fill_int (d := d + 12) (a := 115) (n := 256) rfl (by decide) 0 none none _ _ _)]
    dsimp only [Option.toList_none, List.nil_append]
    rw [B135_31, hI2]
    rfl
  have key := pn_loop (d := d) (e := e) (L := L) (L' := L') (pa := pa) (pb := pb) (pu := pu) (pw := pw) (dy := dy) (hd := hd) (cr := cr) (fs := fs) (bt := bt) (HA := HA) (CA := CA) 7 0 rfl I2 J1 none (by rw [f0 2 (by decide) (by decide), a0 2 (by decide) (by decide)]; exact hI) (by rw [b0 6 (by decide)]; exact hJ) c1 (by rw [f0 107 (by decide) (by decide), a7]; rfl) (by rw [f0 107 (by decide) (by decide), a7]; rfl) (by rw [f0 107 (by decide) (by decide), a7]; rfl) (fun u hu => absurd hu (by omega)) f1 (by rw [b1]; rfl) (by rw [b1]; rfl) (fun u hu => absurd hu (by omega))
  refine jW2_goL (Q1 := pnQ dy L L' pa pb pu pw I2 J1) rfl (by show jW2 (jv (d + 13) 135 0 [some (.ref 107), some (.ref 1), none] [] (shC, j_up I 116 10 0, L, pX pa pb pu pw)) _ _; rw [e1]; exact key) ?_
  rintro v S w T ⟨I3, J3, rfl, rfl, rfl, rfl, ⟨y1, y2, y3, y4⟩, r1, r2, r3⟩
  dsimp only [Option.toList_none, List.nil_append]
  have hp3 : planRel I3 J3 := RP_plan r3 (fun t ht => by
    have := hJ.2.2.2.2 t ht
    rw [y3 6 (by decide) (Or.inl (by decide)), b0 6 (by decide)]
    exact ⟨this.2.2.2.2.1, this.1⟩)
  have t1 : ∀ c, c < 107 ∨ (107 < c ∧ c < 110) ∨ 116 < c → I3 c = I c := fun c x => by rw [y1 c (by omega), f0 c (by omega) (by omega), a0 c (by omega) (by omega)]
  have t2 : ∀ f, f ≠ 1 → f ≠ 5 → f ≠ 8 → I3 107 f = I 107 f := fun f x y z => by rw [y2 f x y z, f0 107 (by decide) (by decide), a7, if_neg z, if_neg y, if_neg x]
  have t3 : ∀ f, I3 116 f = if f = 10 then 0 else I 116 f := fun f => by rw [y1 116 (Or.inr (Or.inr (by decide))), f0 116 (by decide) (by decide), a6]
  have t4 : ∀ c, 0 < c → c < 72 ∨ 77 < c → J3 c = J c := fun c x y => by rw [y3 c x y, b0 c (by omega)]
  have t5 : ∀ f, f ≠ 120 → f ≠ 121 → J3 0 f = J 0 f := fun f x y => by rw [y4 f x y, b1, if_neg y, if_neg x]
  rw [B211_29]
  rcases id r3 with ⟨s1, s2⟩ | ⟨E, s0, s1, s2, _⟩
  · rw [s1, if_pos (by decide), B211_51]
    exact jW_some ⟨-2, I3, J3, rfl, by rw [s2], rfl, rfl, t1, t2, t3, t4, t5, r1, r2, hp3⟩
  · rw [s1, if_neg (nI_pos (by omega)), B211_51]
    exact jW_some ⟨nI E, I3, J3, rfl, by rw [s2], rfl, rfl, t1, t2, t3, t4, t5, r1, r2, hp3⟩
end PLAN5
