/-! UNDO: from its call on -/
section UNDC
variable {d e : Nat} {L L' : Nat → Nat → Int64} {pa pb pu pw : Option Nat}
theorem und_all {I J : Nat → Nat → Int32} {F : Nat → Int32} {cms : Nat} {M : Nat → Nat → Int32} {s : Nat → Nat} (hl : lgR (s cms) F I J) (hw : lgW F cms M s) (hr : rCst J) (hc : cms < 2 ^ 20) (h8 : I 0 8 = nI cms) (h15 : J 0 15 = nI cms) (h11 : I 0 11 = 0) (h18 : J 0 18 = 0) (h25 : ∀ r, r < 148 → I 25 r = J 15 r) (hk2 : ∀ q, q < 1189 → I 2 q = M cms q) (hk6 : ∀ q, q < 1189 → J 6 q = M cms q) {k : Nat} (hk : k < cms) : (∃ r I' J', r < 148 ∧ (∀ c, c ≠ 0 → c ≠ 4 → c ≠ 6 → I' c = I c) ∧ (∀ f, I' 0 f = if f = 9 then 0 else I 0 f) ∧ (∀ c, c ≠ 0 → c ≠ 8 → J' c = J c) ∧ (∀ g, J' 0 g = if g = 22 then -2 else if g = 21 then 0 else J 0 g) ∧ jv (d + 5) 178 0 [some (.ref 0), some (.int (nI (k + 1))), none, none, none, none, none] [] (shC, I, L, pX pa pb pu pw) = some (some (.int ((-100) - nI r)), (shC, I', L, pX pa pb pu pw)) ∧ jv (e + 2) 234 0 [some (.ref 0), some (.int (nI (k + 1))), none, none, none, none, none] [] (shR, J, L', pR) = some (some (.int ((-100) - nI r)), (shR, J', L', pR))) ∨ (∃ m I' J' l2 l3 l4 p5 p6 m2 m3 m4 m5 q6, mT m I' J' ∧ (∀ c, c ≠ 0 → c ≠ 4 → c ≠ 6 → I' c = I c) ∧ (∀ f, I' 0 f = if f = 9 then 0 else I 0 f) ∧ (∀ c, c ≠ 7 → c ≠ 8 → J' c = J c) ∧ jv (d + 5) 178 0 [some (.ref 0), some (.int (nI (k + 1))), none, none, none, none, none] [] (shC, I, L, pX pa pb pu pw) = jgo jTT jMM (d + 5) 185 [.ref 0] (shC, I', L, pX pa pb pu pw) (fun v S => jv (d + 5) 178 170 [some (.ref 0), some (.int (nI (k + 1))), some (.int l2), some (.int l3), some (.int l4), p5, p6] (v.toList ++ []) S) ∧ jv (e + 2) 234 0 [some (.ref 0), some (.int (nI (k + 1))), none, none, none, none, none] [] (shR, J, L', pR) = jgo jTT jMM (e + 2) 230 [.ref 0] (shR, J', L', pR) (fun v S => jv (e + 2) 234 240 [some (.ref 0), some (.int (nI (k + 1))), some (.int m2), some (.int m3), some (.int m4), some (.int m5), q6] (v.toList ++ []) S)) := by
  have sC : jv (d + 5) 178 0 [some (.ref 0), some (.int (nI (k + 1))), none, none, none, none, none] [] (shC, I, L, pX pa pb pu pw) = jv (d + 5) 178 41 [some (.ref 0), some (.int (nI (k + 1))), some (.int (nI 0)), some (.int (nI 1)), none, none, none] [] (shC, va_up (j_up I 0 9 0) 6 (j_fill (j_up I 0 9 0 6) m0f 1189), L, pX pa pb pu pw) := by
    rw [B178_0, if_neg (show ¬ nI (k + 1) < 1 from nI_nlt (b := 1) (by omega) (by omega)), h8, if_neg (nI_nlt (by omega) (by omega)), if_pos h11, jgo_some rfl (setLeast_o5 (d := d + 3) _ L pa pb pu pw none none)]
    dsimp only [Option.toList_none, List.nil_append]
    rw [B178_37]
    rfl
  have sR : jv (e + 2) 234 0 [some (.ref 0), some (.int (nI (k + 1))), none, none, none, none, none] [] (shR, J, L', pR) = jv (e + 2) 234 37 [some (.ref 0), some (.int (nI (k + 1))), some (.int (nI 0)), some (.int (nI 1)), none, none, none] [] (shR, va_up J 8 (j_fill (J 8) m0f 1189), L', pR) := by
    rw [B234_0, if_neg (show ¬ nI (k + 1) < 1 from nI_nlt (b := 1) (by omega) (by omega)), h15, if_neg (nI_nlt (by omega) (by omega)), if_pos h18, jgo_some rfl (first_ok8 (d := e) hr none none none none)]
    dsimp only [Option.toList_none, List.nil_append]
    rw [B234_33]
    rfl
  generalize hI0 : va_up (j_up I 0 9 0) 6 (j_fill (j_up I 0 9 0 6) m0f 1189) = I0 at sC
  generalize hJ0 : va_up J 8 (j_fill (J 8) m0f 1189) = J0 at sR
  have f0 : ∀ c, c ≠ 0 → c ≠ 6 → I0 c = I c := by
    subst hI0
    exact fun c h1 h2 => by rw [va_up_ne _ _ h2, j_up_cell _ h1]
  have f00 : ∀ f, I0 0 f = if f = 9 then 0 else I 0 f := by
    subst hI0
    intro f
    rw [va_up_ne _ _ (by decide), j_up_own]
  have f6 : ∀ q, q < 1189 → I0 6 q = m0f q := by
    subst hI0
    intro q hq
    rw [va_up_self]
    exact if_pos hq
  have g0 : ∀ c, c ≠ 8 → J0 c = J c := by
    subst hJ0
    exact fun c h1 => va_up_ne _ _ h1
  have g8 : ∀ q, q < 1189 → J0 8 q = m0f q := by
    subst hJ0
    intro q hq
    rw [va_up_self]
    exact if_pos hq
  have hl0 : lgR (s cms) F I0 J0 := ⟨hl.1, by rw [f0 23 (by decide) (by decide)]; exact hl.2.1, by rw [g0 0 (by decide)]; exact hl.2.2.1, fun j hj => by rw [f0 24 (by decide) (by decide), g0 16 (by decide)]; exact hl.2.2.2 j hj⟩
  obtain ⟨I1, a1, a2, a3⟩ := past_c (d := d) (L := L) (pa := pa) (pb := pb) (pu := pu) (pw := pw) hl0 hw hk f6 hc none none none
  obtain ⟨J1, b1, b2, b3⟩ := past_r (e := e) (L' := L') hl0 hw hk g8 hc none none none
  obtain ⟨I2, c1, c2, c3⟩ := copy_c (d := d + 4) (I := I1) (L := L) (pa := pa) (pb := pb) (pu := pu) (pw := pw)
  have hl2 : lgR (s cms) F I2 J1 := ⟨hl0.1, by rw [c1 23 (by decide), a1 23 (by decide)]; exact hl0.2.1, by rw [b1 0 (by decide)]; exact hl0.2.2.1, fun j hj => by rw [c1 24 (by decide), a1 24 (by decide), b1 16 (by decide)]; exact hl0.2.2.2 j hj⟩
  have hrc := hw.rc hk
  obtain ⟨-, -, hp⟩ := hw.2.1 k hk
  have k1 : jv (d + 5) 178 0 [some (.ref 0), some (.int (nI (k + 1))), none, none, none, none, none] [] (shC, I, L, pX pa pb pu pw) = jv (d + 5) 178 100 [some (.ref 0), some (.int (nI (k + 1))), some (.int (nI (s k))), some (.int (nI (chN (M k) (M (k + 1)) 1189))), some (.int (nI 0)), none, none] [] (shC, I2, L, pX pa pb pu pw) := by
    rw [sC, a3, B178_77, jgo_some rfl c3]
    dsimp only [Option.toList_none, List.nil_append]
    rw [B178_88, jgo_some rfl (chs_c (d := d + 1) hl2 hrc)]
    dsimp only [Option.toList_some, List.cons_append, List.nil_append]
    rw [B178_96]
    rfl
  have k2 := sR.trans b3
  have hr1 : rCst J1 := rCst_eq1 hr (fun c _ _ => by rw [b1 c (by omega), g0 c (by omega)])
  have h25' : ∀ r, r < 148 → I2 25 r = J1 15 r := fun r hr' => by rw [c1 25 (by decide), a1 25 (by decide), f0 25 (by decide) (by decide), b1 15 (by decide), g0 15 (by decide)]; exact h25 r hr'
  have frI : ∀ c, c ≠ 0 → c ≠ 4 → c ≠ 6 → I2 c = I c := fun c x1 x2 x3 => by rw [c1 c x2, a1 c x3, f0 c x1 x3]
  have frI0 : ∀ f, I2 0 f = if f = 9 then 0 else I 0 f := fun f => by rw [c1 0 (by decide), a1 0 (by decide), f00]
  have frJ : ∀ c, c ≠ 8 → J1 c = J c := fun c x1 => by rw [b1 c x1, g0 c x1]
  by_cases q : ∃ y, y < 1189 ∧ (M k y ≠ M (k + 1) y ∧ nI (k + 1) < I2 25 (rowN.getD y 0))
  · obtain ⟨y, y1, y2⟩ := q
    obtain ⟨y0, z1, ⟨z2, z3⟩, z4⟩ := fst_s (P := fun y => M k y ≠ M (k + 1) y ∧ nI (k + 1) < I2 25 (rowN.getD y 0)) y y1 y2
    obtain ⟨I3, w1, w2, w3⟩ := und_clash (d := d) (e := e) (L := L) (L' := L') (pa := pa) (pb := pb) (pu := pu) (pw := pw) hl2 hrc hp hr1 h25' (nI (k + 1)) z1 z2 z3 z4 none none
    refine Or.inl ⟨rowN.getD y0 0, I3, _, rowN_lt y0 z1, fun c x1 x2 x3 => by rw [w1 c x2, frI c x1 x2 x3], fun f => by rw [w1 0 (by decide), frI0], fun c x1 x2 => ?_, fun g => ?_, k1.trans w2, k2.trans w3⟩
    · rw [j_up_cell _ x1, j_up_cell _ x1, frJ c x2]
    · rw [j_up_own, j_up_own, frJ 0 (by decide)]
  · obtain ⟨m, I3, J3, p5, p6, q6, w1, w2, w3, w4, w5⟩ := und_free (d := d) (e := e) (L := L) (L' := L') (pa := pa) (pb := pb) (pu := pu) (pw := pw) (g := M cms) hl2 hrc hp hr1 h25' (fun x hx => by rw [c2 x hx, a1 2 (by decide), f0 2 (by decide) (by decide)]; exact hk2 x hx) (fun x hx => by rw [frJ 6 (by decide)]; exact hk6 x hx) (fun x hx => by rw [c1 6 (by decide)]; exact a2 x hx) b2 (hw.2.2.1 cms (Nat.le_refl _)) (hw.2.2.1 k (by omega)) (nI (k + 1)) (fun y hy z => q ⟨y, hy, z⟩) none none
    exact Or.inr ⟨m, I3, J3, _, _, _, p5, p6, _, _, _, _, q6, w1, fun c x1 x2 x3 => by rw [w2 c x2, frI c x1 x2 x3], fun f => by rw [w2 0 (by decide), frI0], fun c x1 x2 => by rw [w3 c x1, frJ c x2], k1.trans w4, k2.trans w5⟩
end UNDC
