/-! REOPEN: from its call on, up to the rules -/
section REOB
variable {d e : Nat} {L L' : Nat → Nat → Int64} {pa pb pu pw : Option Nat}
theorem reopen_38 {I J : Nat → Nat → Int32} {F : Nat → Int32} {cms z : Nat} {M : Nat → Nat → Int32} {s : Nat → Nat} (hw : lgW F cms M s) (hz : z ≤ s cms) (hl : lgR z F I J) (hr : rCst J) (h11 : ¬ I 0 11 = 0) (h18 : ¬ J 0 18 = 0) : ∃ j0 I' J' l2 p3 m2 m3, j0 ≤ cms ∧ s j0 ≤ z ∧ (∀ q, q < 1189 → I' 2 q = M j0 q) ∧ (∀ q, q < 1189 → J' 6 q = M j0 q) ∧ (∀ t, t < 148 → I' 25 t = J' 15 t) ∧ I' 0 8 = nI j0 ∧ J' 0 15 = nI j0 ∧ J' 0 18 = 0 ∧ (∀ c, c ≠ 0 → c ≠ 2 → c ≠ 25 → I' c = I c) ∧ (∀ f, f ≠ 8 → I' 0 f = I 0 f) ∧ (∀ c, c ≠ 0 → c ≠ 6 → c ≠ 15 → J' c = J c) ∧ (∀ g, g ≠ 15 → g ≠ 18 → J' 0 g = J 0 g) ∧ jv (d + 5) 182 0 [some (.ref 0), none, none, none] [] (shC, I, L, pX (some 38) pb pu pw) = jgo jTT jMM (d + 5) 2 [.ref 27, .ref 1, .ref 38] (shC, j_up I' 23 1 (nI (s j0)), L, pX (some 38) pb pu pw) (fun v S => jv (d + 5) 182 114 [some (.ref 0), some (.int (nI (s j0))), some (.int l2), p3] (v.toList ++ []) S) ∧ jv (e + 2) 239 0 [some (.ref 0), none, none, none] [] (shR, J, L', pR) = jgo jTT jMM (e + 2) 261 [.ref 0, .ref 6] (shR, j_up J' 0 17 (nI (s j0)), L', pR) (fun v S => jv (e + 2) 239 145 [some (.ref 0), some (.int (nI (s j0))), m2, m3] (v.toList ++ []) S) := by
  have sC : jv (d + 5) 182 0 [some (.ref 0), none, none, none] [] (shC, I, L, pX (some 38) pb pu pw) = jv (d + 5) 182 34 [some (.ref 0), some (.int (nI 0)), some (.int (nI 0)), none] [] (shC, j_up (va_up (va_up I 2 (j_fill (I 2) m0f 1189)) 25 (j_fill (va_up I 2 (j_fill (I 2) m0f 1189) 25) (fun _ => 0) 148)) 0 8 0, L, pX (some 38) pb pu pw) := by
    rw [B182_0_g38, if_neg h11, jgo_some rfl (setLeast_o1 (d := d + 3) _ L (some 38) pb pu pw none none)]
    dsimp only [Option.toList_none, List.nil_append]
    rw [B182_17_g38, jgo_some rfl (fill_int (d := d + 4) (a := 25) (n := 148) (sh := shC) rfl (by decide) 0 none none _ L (pX (some 38) pb pu pw))]
    dsimp only [Option.toList_none, List.nil_append]
    rw [B182_25_g38]
    rfl
  have hr1 : rCst (j_up J 0 18 0) := rCst_eq1 hr (fun c hc _ => j_up_cell _ hc _ _)
  generalize hJ0 : j_up (va_up (j_up J 0 18 0) 6 (j_fill (j_up J 0 18 0 6) m0f 1189)) 0 15 0 = J0
  have k1 := j_run (fun i => jv (e + 2) 239 30 [some (.ref 0), some (.int (nI i)), none, none] [] (shR, va_up J0 15 (j_fill (J0 15) (fun _ => 0) i), L', pR)) 148 (fun i hi => by
    rw [B239_30, if_pos (show nI i < 148 from nI_lt (b := 148) hi (by decide)), if_pos (j_in_nI hi (by decide)), nI_clamp (n := i) (by omega), nI_1, j_up_fill J0 15 i (J0 15) (fun _ => 0)])
  rw [j_fill_zero, va_up_same] at k1
  have sR : jv (e + 2) 239 0 [some (.ref 0), none, none, none] [] (shR, J, L', pR) = jv (e + 2) 239 52 [some (.ref 0), some (.int (nI 0)), none, none] [] (shR, va_up J0 15 (j_fill (J0 15) (fun _ => 0) 148), L', pR) := by
    rw [B239_0, if_neg h18, if_pos bl_0, jgo_some rfl (first_ok6 (d := e) hr1 none none none none)]
    dsimp only [Option.toList_none, List.nil_append]
    rw [B239_23, hJ0]
    refine (show _ = _ from k1).trans ?_
    rw [B239_30, if_neg (by decide)]
    rfl
  generalize hI1 : j_up (va_up (va_up I 2 (j_fill (I 2) m0f 1189)) 25 (j_fill (va_up I 2 (j_fill (I 2) m0f 1189) 25) (fun _ => 0) 148)) 0 8 0 = I1 at sC
  generalize hJ1 : va_up J0 15 (j_fill (J0 15) (fun _ => 0) 148) = J1 at sR
  have f1 : ∀ c, c ≠ 0 → c ≠ 2 → c ≠ 25 → I1 c = I c := by
    subst hI1
    exact fun c x1 x2 x3 => by rw [j_up_cell _ x1, va_up_ne _ _ x3, va_up_ne _ _ x2]
  have f10 : ∀ f, f ≠ 8 → I1 0 f = I 0 f := by
    subst hI1
    exact fun f x1 => by rw [j_up_own, if_neg x1, va_up_ne _ _ (by decide), va_up_ne _ _ (by decide)]
  have g1 : ∀ c, c ≠ 0 → c ≠ 6 → c ≠ 15 → J1 c = J c := by
    subst hJ1 hJ0
    exact fun c x1 x2 x3 => by rw [va_up_ne _ _ x3, j_up_cell _ x1, va_up_ne _ _ x2, j_up_cell _ x1]
  have g10 : ∀ g, g ≠ 15 → J1 0 g = if g = 18 then 0 else J 0 g := by
    subst hJ1 hJ0
    intro g x1
    rw [va_up_ne _ _ (by decide), j_up_own, if_neg x1, va_up_ne _ _ (by decide), j_up_own]
  have hl1 : lgR z F I1 J1 := ⟨hl.1, by rw [f1 23 (by decide) (by decide) (by decide)]; exact hl.2.1, by rw [g10 17 (by decide), if_neg (by decide)]; exact hl.2.2.1, fun i hi => by rw [f1 24 (by decide) (by decide) (by decide), g1 16 (by decide) (by decide) (by decide)]; exact hl.2.2.2 i hi⟩
  have i2 : ∀ q, q < 1189 → I1 2 q = M 0 q := by
    subst hI1
    intro q hq
    rw [j_up_cell _ (by decide), va_up_ne _ _ (by decide), va_up_self, hw.2.2.2 q hq]
    exact if_pos hq
  have j6 : ∀ q, q < 1189 → J1 6 q = M 0 q := by
    subst hJ1 hJ0
    intro q hq
    rw [va_up_ne _ _ (by decide), j_up_cell _ (by decide), va_up_self, hw.2.2.2 q hq]
    exact if_pos hq
  have i25 : ∀ t, t < 148 → I1 25 t = J1 15 t := by
    subst hI1 hJ1
    intro t ht
    rw [j_up_cell _ (by decide), va_up_self, va_up_self]
    exact (show j_fill _ (fun _ => 0) 148 t = 0 from if_pos ht).trans (show j_fill _ (fun _ => 0) 148 t = 0 from if_pos ht).symm
  have i8 : I1 0 8 = nI 0 := by subst hI1; exact j_up_self _ _ _ _
  have j15 : J1 0 15 = nI 0 := by subst hJ1 hJ0; rw [va_up_ne _ _ (by decide)]; exact j_up_self _ _ _ _
  obtain ⟨j0, I', J', l2, p3, m2, m3, e1, e2, e3, e4, e5, e6, e7, e8, e9, e10, e11, e12, e13⟩ := reo_38 (d := d) (e := e) (L := L) (L' := L') (pb := pb) (pu := pu) (pw := pw) hw hz cms 0 I1 J1 none none none (Nat.zero_add _) (by rw [hw.1]; exact Nat.zero_le _) hl1 (rCst_eq1 hr (fun c hc h6 => g1 c hc (by omega) (by omega))) i2 j6 i25 i8 j15
  rw [hw.1] at e12 e13
  refine ⟨j0, I', J', l2, p3, m2, m3, e1, e2, e3, e4, e5, e6, e7, ?_, fun c x1 x2 x3 => by rw [e8 c x1 x2 x3, f1 c x1 x2 x3], fun f x1 => by rw [e9 f x1, f10 f x1], fun c x1 x2 x3 => by rw [e10 c x1 x2 x3, g1 c x1 x2 x3], fun g x1 x2 => by rw [e11 g x1, g10 g x1, if_neg x2], ?_, ?_⟩
  · rw [e11 18 (by decide), g10 18 (by decide), if_pos rfl]
  · rw [sC, e12, B182_91_g38]
  · rw [sR]
    exact e13
theorem reopen_49 {I J : Nat → Nat → Int32} {F : Nat → Int32} {cms z : Nat} {M : Nat → Nat → Int32} {s : Nat → Nat} (hw : lgW F cms M s) (hz : z ≤ s cms) (hl : lgR z F I J) (hr : rCst J) (h11 : ¬ I 0 11 = 0) (h18 : ¬ J 0 18 = 0) : ∃ j0 I' J' l2 p3 m2 m3, j0 ≤ cms ∧ s j0 ≤ z ∧ (∀ q, q < 1189 → I' 2 q = M j0 q) ∧ (∀ q, q < 1189 → J' 6 q = M j0 q) ∧ (∀ t, t < 148 → I' 25 t = J' 15 t) ∧ I' 0 8 = nI j0 ∧ J' 0 15 = nI j0 ∧ J' 0 18 = 0 ∧ (∀ c, c ≠ 0 → c ≠ 2 → c ≠ 25 → I' c = I c) ∧ (∀ f, f ≠ 8 → I' 0 f = I 0 f) ∧ (∀ c, c ≠ 0 → c ≠ 6 → c ≠ 15 → J' c = J c) ∧ (∀ g, g ≠ 15 → g ≠ 18 → J' 0 g = J 0 g) ∧ jv (d + 5) 182 0 [some (.ref 0), none, none, none] [] (shC, I, L, pX (some 49) pb pu pw) = jgo jTT jMM (d + 5) 2 [.ref 27, .ref 1, .ref 49] (shC, j_up I' 23 1 (nI (s j0)), L, pX (some 49) pb pu pw) (fun v S => jv (d + 5) 182 114 [some (.ref 0), some (.int (nI (s j0))), some (.int l2), p3] (v.toList ++ []) S) ∧ jv (e + 2) 239 0 [some (.ref 0), none, none, none] [] (shR, J, L', pR) = jgo jTT jMM (e + 2) 261 [.ref 0, .ref 6] (shR, j_up J' 0 17 (nI (s j0)), L', pR) (fun v S => jv (e + 2) 239 145 [some (.ref 0), some (.int (nI (s j0))), m2, m3] (v.toList ++ []) S) := by
  have sC : jv (d + 5) 182 0 [some (.ref 0), none, none, none] [] (shC, I, L, pX (some 49) pb pu pw) = jv (d + 5) 182 34 [some (.ref 0), some (.int (nI 0)), some (.int (nI 0)), none] [] (shC, j_up (va_up (va_up I 2 (j_fill (I 2) m0f 1189)) 25 (j_fill (va_up I 2 (j_fill (I 2) m0f 1189) 25) (fun _ => 0) 148)) 0 8 0, L, pX (some 49) pb pu pw) := by
    rw [B182_0_g49, if_neg h11, jgo_some rfl (setLeast_o1 (d := d + 3) _ L (some 49) pb pu pw none none)]
    dsimp only [Option.toList_none, List.nil_append]
    rw [B182_17_g49, jgo_some rfl (fill_int (d := d + 4) (a := 25) (n := 148) (sh := shC) rfl (by decide) 0 none none _ L (pX (some 49) pb pu pw))]
    dsimp only [Option.toList_none, List.nil_append]
    rw [B182_25_g49]
    rfl
  have hr1 : rCst (j_up J 0 18 0) := rCst_eq1 hr (fun c hc _ => j_up_cell _ hc _ _)
  generalize hJ0 : j_up (va_up (j_up J 0 18 0) 6 (j_fill (j_up J 0 18 0 6) m0f 1189)) 0 15 0 = J0
  have k1 := j_run (fun i => jv (e + 2) 239 30 [some (.ref 0), some (.int (nI i)), none, none] [] (shR, va_up J0 15 (j_fill (J0 15) (fun _ => 0) i), L', pR)) 148 (fun i hi => by
    rw [B239_30, if_pos (show nI i < 148 from nI_lt (b := 148) hi (by decide)), if_pos (j_in_nI hi (by decide)), nI_clamp (n := i) (by omega), nI_1, j_up_fill J0 15 i (J0 15) (fun _ => 0)])
  rw [j_fill_zero, va_up_same] at k1
  have sR : jv (e + 2) 239 0 [some (.ref 0), none, none, none] [] (shR, J, L', pR) = jv (e + 2) 239 52 [some (.ref 0), some (.int (nI 0)), none, none] [] (shR, va_up J0 15 (j_fill (J0 15) (fun _ => 0) 148), L', pR) := by
    rw [B239_0, if_neg h18, if_pos bl_0, jgo_some rfl (first_ok6 (d := e) hr1 none none none none)]
    dsimp only [Option.toList_none, List.nil_append]
    rw [B239_23, hJ0]
    refine (show _ = _ from k1).trans ?_
    rw [B239_30, if_neg (by decide)]
    rfl
  generalize hI1 : j_up (va_up (va_up I 2 (j_fill (I 2) m0f 1189)) 25 (j_fill (va_up I 2 (j_fill (I 2) m0f 1189) 25) (fun _ => 0) 148)) 0 8 0 = I1 at sC
  generalize hJ1 : va_up J0 15 (j_fill (J0 15) (fun _ => 0) 148) = J1 at sR
  have f1 : ∀ c, c ≠ 0 → c ≠ 2 → c ≠ 25 → I1 c = I c := by
    subst hI1
    exact fun c x1 x2 x3 => by rw [j_up_cell _ x1, va_up_ne _ _ x3, va_up_ne _ _ x2]
  have f10 : ∀ f, f ≠ 8 → I1 0 f = I 0 f := by
    subst hI1
    exact fun f x1 => by rw [j_up_own, if_neg x1, va_up_ne _ _ (by decide), va_up_ne _ _ (by decide)]
  have g1 : ∀ c, c ≠ 0 → c ≠ 6 → c ≠ 15 → J1 c = J c := by
    subst hJ1 hJ0
    exact fun c x1 x2 x3 => by rw [va_up_ne _ _ x3, j_up_cell _ x1, va_up_ne _ _ x2, j_up_cell _ x1]
  have g10 : ∀ g, g ≠ 15 → J1 0 g = if g = 18 then 0 else J 0 g := by
    subst hJ1 hJ0
    intro g x1
    rw [va_up_ne _ _ (by decide), j_up_own, if_neg x1, va_up_ne _ _ (by decide), j_up_own]
  have hl1 : lgR z F I1 J1 := ⟨hl.1, by rw [f1 23 (by decide) (by decide) (by decide)]; exact hl.2.1, by rw [g10 17 (by decide), if_neg (by decide)]; exact hl.2.2.1, fun i hi => by rw [f1 24 (by decide) (by decide) (by decide), g1 16 (by decide) (by decide) (by decide)]; exact hl.2.2.2 i hi⟩
  have i2 : ∀ q, q < 1189 → I1 2 q = M 0 q := by
    subst hI1
    intro q hq
    rw [j_up_cell _ (by decide), va_up_ne _ _ (by decide), va_up_self, hw.2.2.2 q hq]
    exact if_pos hq
  have j6 : ∀ q, q < 1189 → J1 6 q = M 0 q := by
    subst hJ1 hJ0
    intro q hq
    rw [va_up_ne _ _ (by decide), j_up_cell _ (by decide), va_up_self, hw.2.2.2 q hq]
    exact if_pos hq
  have i25 : ∀ t, t < 148 → I1 25 t = J1 15 t := by
    subst hI1 hJ1
    intro t ht
    rw [j_up_cell _ (by decide), va_up_self, va_up_self]
    exact (show j_fill _ (fun _ => 0) 148 t = 0 from if_pos ht).trans (show j_fill _ (fun _ => 0) 148 t = 0 from if_pos ht).symm
  have i8 : I1 0 8 = nI 0 := by subst hI1; exact j_up_self _ _ _ _
  have j15 : J1 0 15 = nI 0 := by subst hJ1 hJ0; rw [va_up_ne _ _ (by decide)]; exact j_up_self _ _ _ _
  obtain ⟨j0, I', J', l2, p3, m2, m3, e1, e2, e3, e4, e5, e6, e7, e8, e9, e10, e11, e12, e13⟩ := reo_49 (d := d) (e := e) (L := L) (L' := L') (pb := pb) (pu := pu) (pw := pw) hw hz cms 0 I1 J1 none none none (Nat.zero_add _) (by rw [hw.1]; exact Nat.zero_le _) hl1 (rCst_eq1 hr (fun c hc h6 => g1 c hc (by omega) (by omega))) i2 j6 i25 i8 j15
  rw [hw.1] at e12 e13
  refine ⟨j0, I', J', l2, p3, m2, m3, e1, e2, e3, e4, e5, e6, e7, ?_, fun c x1 x2 x3 => by rw [e8 c x1 x2 x3, f1 c x1 x2 x3], fun f x1 => by rw [e9 f x1, f10 f x1], fun c x1 x2 x3 => by rw [e10 c x1 x2 x3, g1 c x1 x2 x3], fun g x1 x2 => by rw [e11 g x1, g10 g x1, if_neg x2], ?_, ?_⟩
  · rw [e11 18 (by decide), g10 18 (by decide), if_pos rfl]
  · rw [sC, e12, B182_91_g49]
  · rw [sR]
    exact e13
end REOB
