/-! SHEETS: all rests; what both tell of a sheet -/
section SHEET7
variable {d e : Nat} {L L' : Nat → Nat → Int64} {pa pb pu pw : Option Nat} {K : Option Value → jS → jO} {w h : Nat} {o : Nat → Nat → Nat → Nat}
def rsSt : Type := (Nat × Nat) × (Nat → Nat) × ((Nat → Nat → Int32) × (Nat → Nat → Int32)) × (Nat → Option Value) × (Nat → Option Value)
theorem rest_row {s y gn mx : Nat} {g : Nat → Nat} {I J : Nat → Nat → Int32} (S : rsIn w h o gn mx g I J) (hs : s < 6) (hy : y < h) (hg : gn ≤ 3030) (l2 : Int32) (c q : Nat → Option Value) : ∃ (gn' mx' : Nat) (g' : Nat → Nat) (I' J' : Nat → Nat → Int32) (c' q' : Nat → Option Value), gn' ≤ gn + w ∧ rsIn w h o gn' mx' g' I' J' ∧ frC' I I' ∧ frR J J' ∧ jv (d + 3) 127 30 [some (.ref 83), some (.int (nI s)), some (.int (nI y)), some (.int (nI 0)), c 1] [] (shC, I, L, pX pa pb pu pw) = jv (d + 3) 127 30 [some (.ref 83), some (.int (nI s)), some (.int (nI y)), some (.int (nI w)), c' 1] [] (shC, I', L, pX pa pb pu pw) ∧ jv e 341 71 [some (.ref 0), some (.int (nI s)), some (.int l2), some (.int (nI w)), some (.int (nI h)), some (.int (nI gn)), some (.int (nI mx)), some (.int (nI y)), some (.int (nI 0)), q 0, q 1, q 2, q 3, q 4, q 5] [] (shR, J, L', pR) = jv e 341 71 [some (.ref 0), some (.int (nI s)), some (.int l2), some (.int (nI w)), some (.int (nI h)), some (.int (nI gn')), some (.int (nI mx')), some (.int (nI y)), some (.int (nI w)), q' 0, q' 1, q' 2, q' 3, q' 4, q' 5] [] (shR, J', L', pR) := by
  obtain ⟨hmx, H, -⟩ := id S
  obtain ⟨h1, h2, -⟩ := id H
  obtain ⟨⟨⟨gn', mx'⟩, g', ⟨I', J'⟩, c', q'⟩, ⟨a1, a2, a3, a4⟩, a5, a6⟩ := j_run2 (α := rsSt) (fun x t => jv (d + 3) 127 30 [some (.ref 83), some (.int (nI s)), some (.int (nI y)), some (.int (nI x)), t.2.2.2.1 1] [] (shC, t.2.2.1.1, L, pX pa pb pu pw)) (fun x t => jv e 341 71 [some (.ref 0), some (.int (nI s)), some (.int l2), some (.int (nI w)), some (.int (nI h)), some (.int (nI t.1.1)), some (.int (nI t.1.2)), some (.int (nI y)), some (.int (nI x)), t.2.2.2.2 0, t.2.2.2.2 1, t.2.2.2.2 2, t.2.2.2.2 3, t.2.2.2.2 4, t.2.2.2.2 5] [] (shR, t.2.2.1.2, L', pR)) (fun x t => t.1.1 ≤ gn + x ∧ rsIn w h o t.1.1 t.1.2 t.2.1 t.2.2.1.1 t.2.2.1.2 ∧ frC' I t.2.2.1.1 ∧ frR J t.2.2.1.2) w (fun x hx t ht => by
    obtain ⟨⟨gn1, mx1⟩, g1, ⟨I1, J1⟩, c1, q1⟩ := t
    obtain ⟨b1, b2, b3, b4⟩ := ht
    dsimp only at b1 b2 b3 b4 ⊢
    obtain ⟨gn2, mx2, g2, I2, J2, o4', q2, k1, k2, k3, k4, k5, k6⟩ := rest_one (d := d) (e := e) (L := L) (L' := L') (pa := pa) (pb := pb) (pu := pu) (pw := pw) b2 hs hx hy (by omega) l2 (c1 1) q1
    exact ⟨((gn2, mx2), g2, (I2, J2), fun _ => o4', q2), ⟨by show gn2 ≤ gn + (x + 1); omega, k2, b3.tr k3, b4.tr k4⟩, k5, k6⟩) ((gn, mx), g, (I, J), c, q) ⟨Nat.le_refl _, S, ⟨fun _ _ _ _ => rfl, fun _ _ _ => rfl⟩, fun _ _ _ => rfl⟩
  exact ⟨gn', mx', g', I', J', c', q', a1, a2, a3, a4, a5, a6⟩
theorem rest_all {s gn mx : Nat} {g : Nat → Nat} {I J : Nat → Nat → Int32} (S : rsIn w h o 0 0 g I J) (hs : s < 6) (l2 : Int32) (c q : Nat → Option Value) : ∃ (gn' mx' : Nat) (g' : Nat → Nat) (I' J' : Nat → Nat → Int32) (c' q' : Nat → Option Value), rsIn w h o gn' mx' g' I' J' ∧ frC' I I' ∧ frR J J' ∧ jv (d + 3) 127 20 [some (.ref 83), some (.int (nI s)), some (.int (nI 0)), c 0, c 1] [] (shC, I, L, pX pa pb pu pw) = some (none, (shC, I', L, pX pa pb pu pw)) ∧ jv e 341 61 [some (.ref 0), some (.int (nI s)), some (.int l2), some (.int (nI w)), some (.int (nI h)), some (.int (nI 0)), some (.int (nI 0)), some (.int (nI 0)), q 6, q 0, q 1, q 2, q 3, q 4, q 5] [] (shR, J, L', pR) = some (some (.int (if l2 = 0 then nI gn' else nI mx')), (shR, J', L', pR)) := by
  obtain ⟨hmx, H, -⟩ := id S
  obtain ⟨h1, h2, -⟩ := id H
  obtain ⟨⟨⟨gn', mx'⟩, g', ⟨I', J'⟩, c', q'⟩, ⟨a1, a2, a3, a4⟩, a5, a6⟩ := j_run2 (α := rsSt) (fun y t => jv (d + 3) 127 20 [some (.ref 83), some (.int (nI s)), some (.int (nI y)), t.2.2.2.1 0, t.2.2.2.1 1] [] (shC, t.2.2.1.1, L, pX pa pb pu pw)) (fun y t => jv e 341 61 [some (.ref 0), some (.int (nI s)), some (.int l2), some (.int (nI w)), some (.int (nI h)), some (.int (nI t.1.1)), some (.int (nI t.1.2)), some (.int (nI y)), t.2.2.2.2 6, t.2.2.2.2 0, t.2.2.2.2 1, t.2.2.2.2 2, t.2.2.2.2 3, t.2.2.2.2 4, t.2.2.2.2 5] [] (shR, t.2.2.1.2, L', pR)) (fun y t => t.1.1 ≤ 64 * y ∧ rsIn w h o t.1.1 t.1.2 t.2.1 t.2.2.1.1 t.2.2.1.2 ∧ frC' I t.2.2.1.1 ∧ frR J t.2.2.1.2) h (fun y hy t ht => by
    obtain ⟨⟨gn1, mx1⟩, g1, ⟨I1, J1⟩, c1, q1⟩ := t
    obtain ⟨b1, b2, b3, b4⟩ := ht
    dsimp only at b1 b2 b3 b4 ⊢
    obtain ⟨-, B, -⟩ := id b2
    obtain ⟨gn2, mx2, g2, I2, J2, c2, q2, k1, k2, k3, k4, k5, k6⟩ := rest_row (d := d) (e := e) (L := L) (L' := L') (pa := pa) (pb := pb) (pu := pu) (pw := pw) b2 hs hy (by omega) l2 c1 q1
    obtain ⟨-, B2, -⟩ := id k2
    refine ⟨((gn2, mx2), g2, (I2, J2), fun i => if i = 0 then some (.int (nI w)) else c2 1, fun i => if i = 6 then some (.int (nI w)) else q2 i), ⟨by show gn2 ≤ 64 * (y + 1); omega, k2, b3.tr k3, b4.tr k4⟩, ?_, ?_⟩
    · rw [B127_20, B.2.2.2.1, if_pos (nI_lt hy (by omega))]
      refine k5.trans ?_
      rw [B127_30, B2.2.2.1, if_neg (nI_nlt (Nat.le_refl _) (by omega)), nI_1 y]
      rfl
    · rw [B341_61, if_pos (nI_lt hy (by omega))]
      refine k6.trans ?_
      rw [B341_71, if_neg (nI_nlt (Nat.le_refl _) (by omega)), nI_1 y]
      rfl) ((0, 0), g, (I, J), c, q) ⟨Nat.le_refl _, S, ⟨fun _ _ _ _ => rfl, fun _ _ _ => rfl⟩, fun _ _ _ => rfl⟩
  dsimp only at a1 a2 a3 a4 a5 a6
  obtain ⟨-, B, -⟩ := id a2
  refine ⟨gn', mx', g', I', J', c', q', a2, a3, a4, a5.trans ?_, a6.trans ?_⟩
  · rw [B127_20, B.2.2.2.1, if_neg (nI_nlt (Nat.le_refl _) (by omega))]
  · rw [B341_61, if_neg (nI_nlt (Nat.le_refl _) (by omega))]
    by_cases r : l2 = 0
    · rw [if_pos r, if_pos r, B341_387]
    · rw [if_neg r, if_neg r, B341_387]
theorem r341_fill {J : Nat → Nat → Int32} {s : Nat} (l2 l3 l4 : Int32) : jv e 341 30 [some (.ref 0), some (.int (nI s)), some (.int l2), some (.int l3), some (.int l4), some (.int 0), none, none, none, none, none, none, none, none, none] [] (shR, J, L', pR) = jv e 341 61 [some (.ref 0), some (.int (nI s)), some (.int l2), some (.int l3), some (.int l4), some (.int 0), some (.int 0), some (.int 0), none, none, none, none, none, none, none] [] (shR, va_up J 58 (j_fill (J 58) (fun _ => 0) 3072), L', pR) := by
  have h0 : va_up J 58 (j_fill (J 58) (fun _ => 0) 0) = J := by rw [j_fill_zero, va_up_same]
  have hr := j_run (fun i => jv e 341 30 [some (.ref 0), some (.int (nI s)), some (.int l2), some (.int l3), some (.int l4), some (.int (nI i)), none, none, none, none, none, none, none, none, none] [] (shR, va_up J 58 (j_fill (J 58) (fun _ => 0) i), L', pR)) 3072 (fun i hi => by
    rw [B341_30, if_pos (show nI i < 3072 from nI_lt (b := 3072) hi (by decide)), if_pos (j_in_nI hi (by decide)), nI_clamp (n := i) (by omega), nI_1 i, j_up_fill J 58 i (J 58) (fun _ => 0)])
  rw [h0] at hr
  refine hr.trans ?_
  rw [B341_30, if_neg (by decide)]
/-- both at their rests -/
theorem rest_sim {s : Nat} {I J : Nat → Nat → Int32} (H : shIn w h o I J) (hr : rCst J) (hs : s < 6) (l2 : Int32) : ∃ (gn mx : Nat) (I' J' : Nat → Nat → Int32), frC' I I' ∧ frR J J' ∧ I' 83 6 = nI gn ∧ I' 83 7 = nI mx ∧ jv (d + 3) 127 0 [some (.ref 83), some (.int (nI s)), none, none, none] [] (shC, I, L, pX pa pb pu pw) = some (none, (shC, I', L, pX pa pb pu pw)) ∧ jv (e + 1) 341 0 [some (.ref 0), some (.int (nI s)), some (.int l2), none, none, none, none, none, none, none, none, none, none, none, none] [] (shR, J, L', pR) = some (some (.int (if l2 = 0 then nI gn else nI mx)), (shR, J', L', pR)) := by
  obtain ⟨h1, h2, h3, h4, h5, h6, -⟩ := id H
  generalize hI1 : va_up (j_up (j_up I 83 6 0) 83 7 0) 94 (j_fill (j_up (j_up I 83 6 0) 83 7 0 94) (fun _ => 0) 3072) = I1
  generalize hJ1 : va_up J 58 (j_fill (J 58) (fun _ => 0) 3072) = J1
  have i83 : ∀ f, I1 83 f = if f = 7 then 0 else if f = 6 then 0 else I 83 f := fun f => by rw [← hI1, va_up_ne _ _ (by decide), j_up_own, j_up_own]
  have f1 : frC' I I1 := ⟨fun c x y z => by rw [← hI1, va_up_ne _ _ x, j_up_cell _ z, j_up_cell _ z], fun f x y => by rw [i83, if_neg y, if_neg x]⟩
  have f2 : frR J J1 := fun c x y => by rw [← hJ1, va_up_ne _ _ x]
  have S : rsIn w h o 0 0 (fun _ => 0) I1 J1 := ⟨Nat.zero_le _, H.fr' f1 f2, ⟨Nat.zero_le _, Nat.zero_le _, fun i hi => ⟨by rw [← hI1, va_up_self]; show (if i < 3072 then (0 : Int32) else _) = _; rw [if_pos hi]; rfl, by rw [← hJ1, va_up_self]; show (if i < 3072 then (0 : Int32) else _) = _; rw [if_pos hi]; rfl, Nat.zero_le _⟩, fun j hj => absurd hj (Nat.not_lt_zero _)⟩, by rw [i83, if_neg (by decide), if_pos rfl]; rfl, by rw [i83, if_pos rfl]; rfl⟩
  obtain ⟨gn, mx, g', I', J', c', q', a1, a2, a3, a4, a5⟩ := rest_all (gn := 0) (mx := 0) (d := d) (e := e + 1) (L := L) (L' := L') (pa := pa) (pb := pb) (pu := pu) (pw := pw) S hs l2 (fun _ => none) (fun _ => none)
  refine ⟨gn, mx, I', J', f1.tr a2, f2.tr a3, a1.2.2.2.1, a1.2.2.2.2, ?_, ?_⟩
  · rw [B127_0, g_fill_b (d := d + 2) (a := 94) (n := 3072) rfl (by decide), hI1]
    dsimp only [Option.toList_none, List.nil_append]
    rw [B127_18]
    exact a4
  · rw [B341_0, g_at_0_4 hr]
    dsimp only [Option.toList_some, List.cons_append, List.nil_append]
    rw [B341_11, if_pos (j_in_nI (by decide) (by decide)), nI_clamp (n := 4) (by decide), h5, g_at_0_5 hr]
    dsimp only [Option.toList_some, List.cons_append, List.nil_append]
    rw [B341_24, if_pos (j_in_nI (by decide) (by decide)), nI_clamp (n := 5) (by decide), h6, r341_fill, hJ1]
    exact a5
end SHEET7
