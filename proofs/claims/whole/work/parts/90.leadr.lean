/-! PIPES: lead() is answered alike -/
section LEADR
variable {d e : Nat} {L L' : Nat → Nat → Int64} {pa pb pu pw : Option Nat} {sv pv : Nat → Nat → Nat}
theorem end1_c {I : Nat → Nat → Int32} {p : Nat} (hp : p < 6) (hv : pvC pv I) : jv (d + 1) 80 0 [some (.ref 1), some (.int (nI p)), some (.int 1)] [] (shC, I, L, pX pa pb pu pw) = some (some (.int (nI (frN' pv p))), (shC, I, L, pX pa pb pu pw)) := by
  have q1 : I 2 (797 + p * 8) = nI (pv p 1) := hv p hp 1 (by decide)
  have q2 : I 2 (798 + p * 8) = nI (pv p 2) := hv p hp 2 (by decide)
  have q3 : I 2 (799 + p * 8) = nI (pv p 3) := hv p hp 3 (by decide)
  rw [B80_0, g_of1_9_1 hp, q1]
  dsimp only [Option.toList_some, List.cons_append, List.nil_append]
  rw [B80_8, show (1 : Int32) + 1 = 2 from rfl, g_of1_9_2 hp, q2]
  dsimp only [Option.toList_some, List.cons_append, List.nil_append]
  rw [B80_18, show (1 : Int32) + 2 = 3 from rfl, g_of1_9_3 hp, q3]
  dsimp only [Option.toList_some, List.cons_append, List.nil_append]
  rw [B80_28, jgo_some rfl (at_c _ _ _)]
  dsimp only [Option.toList_some, List.cons_append, List.nil_append]
  rw [B80_31]
  rfl
theorem end4_c {I : Nat → Nat → Int32} {p : Nat} (hp : p < 6) (hv : pvC pv I) : jv (d + 1) 80 0 [some (.ref 1), some (.int (nI p)), some (.int 4)] [] (shC, I, L, pX pa pb pu pw) = some (some (.int (nI (toN' pv p))), (shC, I, L, pX pa pb pu pw)) := by
  have q1 : I 2 (800 + p * 8) = nI (pv p 4) := hv p hp 4 (by decide)
  have q2 : I 2 (801 + p * 8) = nI (pv p 5) := hv p hp 5 (by decide)
  have q3 : I 2 (802 + p * 8) = nI (pv p 6) := hv p hp 6 (by decide)
  rw [B80_0, g_of1_9_4 hp, q1]
  dsimp only [Option.toList_some, List.cons_append, List.nil_append]
  rw [B80_8, show (4 : Int32) + 1 = 5 from rfl, g_of1_9_5 hp, q2]
  dsimp only [Option.toList_some, List.cons_append, List.nil_append]
  rw [B80_18, show (4 : Int32) + 2 = 6 from rfl, g_of1_9_6 hp, q3]
  dsimp only [Option.toList_some, List.cons_append, List.nil_append]
  rw [B80_28, jgo_some rfl (at_c _ _ _)]
  dsimp only [Option.toList_some, List.cons_append, List.nil_append]
  rw [B80_31]
  rfl
/-- the solids' cells -/
def solP (sv : Nat → Nat → Nat) (n c : Nat) : Prop := ∃ i, i < n ∧ sv i 0 = 1 ∧ so1 sv i c
/-- leadAll(), up to the pipes -/
theorem all0_c {I : Nat → Nat → Int32} (hs : svOk sv) (hv : svC sv I) : ∃ I', (∀ c, c ≠ 96 → c ≠ 101 → I' c = I c) ∧ (∀ g, I' 96 g = if g = 1 then 0 else I 96 g) ∧ tkC (solP sv 12) I' ∧ jv (d + 2) 79 0 [some (.ref 96), some (.ref 1), none] [] (shC, I, L, pX pa pb pu pw) = jv (d + 2) 79 51 [some (.ref 96), some (.ref 1), some (.int (nI 0))] [] (shC, I', L, pX pa pb pu pw) := by
  rw [B79_0, jgo_some rfl (fill_byte (d := d + 1) (a := 101) (n := 1600) (sh := shC) rfl (by decide) 0 none none _ L (pX pa pb pu pw))]
  dsimp only [Option.toList_none, List.nil_append]
  rw [B79_13]
  generalize hI0 : va_up (j_up I 96 1 0) 101 (j_fill (j_up I 96 1 0 101) (fun _ => vp_nar .byte 0) 1600) = I0
  have f0 : ∀ c, c ≠ 96 → c ≠ 101 → I0 c = I c := by
    subst hI0
    exact fun c h1 h2 => by rw [va_up_ne _ _ h2, j_up_cell _ h1]
  have f1 : ∀ g, I0 96 g = if g = 1 then 0 else I 96 g := by
    subst hI0
    intro g
    rw [va_up_ne _ _ (by decide), j_up_own]
  have t0 : tkC (fun _ => False) I0 := by
    subst hI0
    intro c hc
    rw [va_up_self]
    refine ⟨fun _ z => z, fun _ => ?_⟩
    exact (if_pos hc).trans (show vp_nar .byte 0 = 0 by decide)
  obtain ⟨I', ⟨a1, a2⟩, a3⟩ := j_runP (α := Nat → Nat → Int32) (fun i I1 => jv (d + 2) 79 15 [some (.ref 96), some (.ref 1), some (.int (nI i))] [] (shC, I1, L, pX pa pb pu pw)) (fun i I1 => (∀ c, c ≠ 101 → I1 c = I0 c) ∧ tkC (solP sv i) I1) 12 (fun i hi I1 hI => by
    obtain ⟨b1, b2⟩ := hI
    try dsimp only
    have hv1 : svC sv I1 := fun i' hi' j hj => by rw [b1 2 (by decide), f0 2 (by decide) (by decide)]; exact hv i' hi' j hj
    have h0 : I1 2 (712 + i * 7) = nI (sv i 0) := hv1 i hi 0 (by decide)
    have s0 := (hs i hi).1
    rw [B79_15, if_pos (by decide), if_pos (show nI i < (z_0.getD (8 : Int32).toNatClampNeg 0) from nI_lt (b := 12) hi (by decide)), g_of1_8_0 hi, h0]
    dsimp only [Option.toList_some, List.cons_append, List.nil_append]
    rw [B79_33]
    by_cases q : sv i 0 = 1
    · obtain ⟨I2, c1, c2, c3⟩ := take_c (d := d) (L := L) (pa := pa) (pb := pb) (pu := pu) (pw := pw) hs hv1 hi b2
      rw [q, if_pos (by decide), jgo_some rfl c3]
      dsimp only [Option.toList_none, List.nil_append]
      rw [B79_43, nI_1]
      refine ⟨I2, ⟨fun c hc => (c1 c hc).trans (b1 c hc), c2.cg (fun c hc => ?_)⟩, rfl⟩
      constructor
      · rintro (⟨k, h1, h2⟩ | h)
        · exact ⟨k, by omega, h2⟩
        · exact ⟨i, by omega, q, h⟩
      · rintro ⟨k, h1, h2, h3⟩
        by_cases z : k = i
        · subst z; exact Or.inr h3
        · exact Or.inl ⟨k, by omega, h2, h3⟩
    · rw [if_neg (show ¬ nI (sv i 0) = 1 from fun z => q ((nI_eq (b := 1) (by omega) (by decide)).mp z)), B79_43, nI_1]
      refine ⟨I1, ⟨b1, b2.cg (fun c hc => ?_)⟩, rfl⟩
      constructor
      · rintro ⟨k, h1, h2⟩
        exact ⟨k, by omega, h2⟩
      · rintro ⟨k, h1, h2, h3⟩
        refine ⟨k, ?_, h2, h3⟩
        by_cases z : k = i
        · subst z; exact absurd h2 q
        · omega) I0 ⟨fun _ _ => rfl, t0.cg (fun c _ => ⟨False.elim, fun ⟨k, h, _⟩ => absurd h (Nat.not_lt_zero _)⟩)⟩
  refine ⟨I', fun c h1 h2 => (a1 c h2).trans (f0 c h1 h2), fun g => by rw [a1 96 (by decide), f1], a2, (show _ = _ from a3).trans ?_⟩
  rw [B79_15, if_pos (by decide), if_neg (by decide)]
  rfl
theorem all0_r {J : Nat → Nat → Int32} (h0 : J 0 18 = 0) : ∃ J', (∀ c, c ≠ 0 → c ≠ 66 → J' c = J c) ∧ (∀ g, J' 0 g = if g = 108 then 0 else if g = 107 then 1 else J 0 g) ∧ tkR (fun _ => False) J' ∧ jv e 348 0 [some (.ref 0), none] [] (shR, J, L', pR) = jv e 348 44 [some (.ref 0), some (.int (nI 0))] [] (shR, J', L', pR) := by
  generalize hJ0 : j_up (j_up J 0 107 1) 0 108 0 = J0
  have k1 := j_run (fun i => jv e 348 22 [some (.ref 0), some (.int (nI i))] [] (shR, va_up J0 66 (j_fill (J0 66) (fun _ => vp_nar .boolean 0) i), L', pR)) 1600 (fun i hi => by
    rw [B348_22, if_pos (show nI i < 1600 from nI_lt (b := 1600) hi (by decide)), if_pos (j_in_nI hi (by decide)), nI_clamp (n := i) (by omega), nI_1, j_up_fill J0 66 i (J0 66) (fun _ => vp_nar .boolean 0)])
  rw [j_fill_zero, va_up_same] at k1
  refine ⟨va_up J0 66 (j_fill (J0 66) (fun _ => vp_nar .boolean 0) 1600), fun c h1 h2 => ?_, fun g => ?_, fun c hc => ?_, ?_⟩
  · rw [va_up_ne _ _ h2, ← hJ0, j_up_cell _ h1, j_up_cell _ h1]
  · rw [va_up_ne _ _ (by decide), ← hJ0, j_up_own, j_up_own]
  · rw [va_up_self]
    refine ⟨fun _ z => z, fun _ => ?_⟩
    exact (if_pos hc).trans (show vp_nar .boolean 0 = 0 by decide)
  · rw [B348_0, if_pos h0, if_pos (by decide), hJ0]
    refine (show _ = _ from k1).trans ?_
    rw [B348_22, if_neg (by decide)]
    rfl
theorem wr1.fr {p q : Nat} {I I' J J' : Nat → Nat → Int32} (h : wr1 q I J) (hq : q ≠ p) (hI : frLc p I I') (hJ : frLr p J J') : wr1 q I' J' := by
  obtain ⟨h1, h2⟩ := h
  obtain ⟨a1, a2, a3⟩ := hI.2.2.1 q hq
  obtain ⟨b1, b2, b3⟩ := hJ.2.2.1 q hq
  refine ⟨by rw [a1, b1, h1], fun z => ?_⟩
  rw [b1] at z
  obtain ⟨c1, c2, n, c3, c4, c5⟩ := h2 z
  refine ⟨by rw [a2, b2, c1], by rw [a3, b3, c2], n, c3, by rw [b2, c4], fun k hk => ?_⟩
  rw [hI.2.2.2 _ (by omega), hJ.2.2.2 _ (by omega), c5 k hk]
/-- what lead() leaves as it was -/
def leadFc (I I' : Nat → Nat → Int32) : Prop := (∀ c, (c < 96 ∨ 106 < c) → I' c = I c) ∧ ∀ g, g ≠ 1 → g ≠ 12 → I' 96 g = I 96 g
def leadFr (J J' : Nat → Nat → Int32) : Prop := (∀ c, c ≠ 0 → (c < 62 ∨ 71 < c) → J' c = J c) ∧ ∀ g, g ≠ 108 → g ≠ 119 → J' 0 g = J 0 g
theorem frLc.lead {p : Nat} {I I' : Nat → Nat → Int32} (h : frLc p I I') : leadFc I I' := ⟨fun c hc => h.1 c (by omega) (by omega) (by omega) (by omega) (by omega) (by omega) (by omega) (by omega) (by omega) (by omega), fun g _ h2 => h.2.1 g h2⟩
theorem frLr.lead {p : Nat} {J J' : Nat → Nat → Int32} (h : frLr p J J') : leadFr J J' := ⟨fun c h0 hc => h.1 c h0 (by omega) (by omega) (by omega) (by omega) (by omega) (by omega) (by omega) (by omega) (by omega), fun g _ h2 => h.2.1 g h2⟩
theorem leadFc.trans {I I' I'' : Nat → Nat → Int32} (h : leadFc I I') (h' : leadFc I' I'') : leadFc I I'' := ⟨fun c hc => (h'.1 c hc).trans (h.1 c hc), fun g h1 h2 => (h'.2 g h1 h2).trans (h.2 g h1 h2)⟩
theorem leadFr.trans {J J' J'' : Nat → Nat → Int32} (h : leadFr J J') (h' : leadFr J' J'') : leadFr J J'' := ⟨fun c h0 hc => (h'.1 c h0 hc).trans (h.1 c h0 hc), fun g h1 h2 => (h'.2 g h1 h2).trans (h.2 g h1 h2)⟩
def ldSt : Type := ((Nat → Prop) × Nat) × (Nat → Nat → Int32) × (Nat → Nat → Int32)
/-- one pipe more -/
theorem pipe_sim {I J : Nat → Nat → Int32} {Tw : Nat → Prop} {p m : Nat} (hp : p < 6) (hs : svOk sv) (hpv : pvOk pv) (hvC : pvC pv I) (hvR : pvR pv J) (hsR : svR sv J) (hr : rCst J) (tC : tkC (fun c => solP sv 12 c ∨ Tw c) I) (tR : tkR Tw J) (hm : m ≤ p) (hI1 : I 96 1 = nI m) (hJ1 : J 0 108 = nI m) (hw : ∀ q, q < p → wr1 q I J) : ∃ (Tw' : Nat → Prop) (m' : Nat) (I' J' : Nat → Nat → Int32), tkC (fun c => solP sv 12 c ∨ Tw' c) I' ∧ tkR Tw' J' ∧ m' ≤ p + 1 ∧ I' 96 1 = nI m' ∧ J' 0 108 = nI m' ∧ (∀ q, q < p + 1 → wr1 q I' J') ∧ leadFc I I' ∧ leadFr J J' ∧ jv (d + 4) 79 51 [some (.ref 96), some (.ref 1), some (.int (nI p))] [] (shC, I, L, pX pa pb pu pw) = jv (d + 4) 79 51 [some (.ref 96), some (.ref 1), some (.int (nI (p + 1)))] [] (shC, I', L, pX pa pb pu pw) ∧ jv (e + 4) 348 44 [some (.ref 0), some (.int (nI p))] [] (shR, J, L', pR) = jv (e + 4) 348 44 [some (.ref 0), some (.int (nI (p + 1)))] [] (shR, J', L', pR) := by
  obtain ⟨v0, v1, v2, v3, v4, v5, v6, v7⟩ := hpv p hp
  have jp : j_in (nI p) 6 = true := j_in_nI hp (by decide)
  have q0 : I 2 (796 + p * 8) = nI (pv p 0) := hvC p hp 0 (by decide)
  have q7 : I 2 (803 + p * 8) = nI (pv p 7) := hvC p hp 7 (by decide)
  have r0 : J 6 (796 + p * 8) = nI (pv p 0) := hvR p hp 0 (by decide)
  have r7 : J 6 (803 + p * 8) = nI (pv p 7) := hvR p hp 7 (by decide)
  have hr0 : rCst (j_up J 62 p (-1)) := rCst_eq1 hr (fun c _ _ => j_up_cell _ (by omega) _ _)
  have fc0 : leadFc I (j_up I 97 p (-1)) := ⟨fun c hc => j_up_cell _ (by omega) _ _, fun g _ _ => by rw [j_up_cell _ (by decide)]⟩
  have fr0 : leadFr J (j_up J 62 p (-1)) := ⟨fun c _ hc => j_up_cell _ (by omega) _ _, fun g _ _ => by rw [j_up_cell _ (by decide)]⟩
  have w0 : ∀ q, q < p → wr1 q (j_up I 97 p (-1)) (j_up J 62 p (-1)) := by
    intro q hq
    obtain ⟨h1, h2⟩ := hw q hq
    refine ⟨by rw [j_up_own, if_neg (by omega), j_up_own, if_neg (by omega), h1], fun z => ?_⟩
    rw [j_up_own, if_neg (by omega)] at z
    obtain ⟨c1, c2, n, c3, c4, c5⟩ := h2 z
    refine ⟨by rw [j_up_cell _ (by decide), j_up_cell _ (by decide), c1], by rw [j_up_cell _ (by decide), j_up_cell _ (by decide), c2], n, c3, by rw [j_up_cell _ (by decide), c4], fun k hk => by rw [j_up_cell _ (by decide), j_up_cell _ (by decide), c5 k hk]⟩
  rw [B79_51, if_pos (show nI p < 6 from nI_lt (b := 6) hp (by decide)), if_pos jp, nI_clamp (n := p) (by omega), g_of1_9_0 hp, j_up_cell _ (by decide : 2 ≠ 97), q0]
  dsimp only [Option.toList_some, List.cons_append, List.nil_append]
  rw [B79_72, B348_44, if_pos (show nI p < 6 from nI_lt (b := 6) hp (by decide)), if_pos jp, nI_clamp (n := p) (by omega), g_at_9_0 hr0]
  dsimp only [Option.toList_some, List.cons_append, List.nil_append]
  rw [B348_69, if_pos (j_in_nI (by omega) (by decide)), nI_clamp (n := 796 + p * 8) (by omega), j_up_cell _ (by decide : 6 ≠ 62), r0]
  by_cases k1 : pv p 0 = 1
  · rw [k1, if_pos (show nI 1 = 1 by decide), if_pos (show nI 1 = 1 by decide), g_of1_9_7 hp, j_up_cell _ (by decide : 2 ≠ 97), q7, g_at_9_7 hr0]
    dsimp only [Option.toList_some, List.cons_append, List.nil_append]
    rw [B79_86, B348_88, if_pos (j_in_nI (by omega) (by decide)), nI_clamp (n := 803 + p * 8) (by omega), j_up_cell _ (by decide : 6 ≠ 62), r7]
    obtain ⟨I1, a1, a2, a3⟩ := bar_c (d := d + 2) (L := L) (pa := pa) (pb := pb) (pu := pu) (pw := pw) (I := j_up I 97 p (-1)) (Tk := fun c => solP sv 12 c ∨ Tw c) v7 (fun c hc => by rw [j_up_cell _ (by decide)]; exact tC c hc)
    obtain ⟨J1, b1, b2, b3⟩ := barAll_r (e := e + 1) (L := L') (J := j_up J 62 p (-1)) (Tw := Tw) (sv := sv) v7 hr0 hs (hsR.fr (j_up_cell _ (by decide) _ _)) (fun c hc => by rw [j_up_cell _ (by decide)]; exact tR c hc)
    rw [jgo_some (k' := 83) rfl a3, jgo_some (k' := 347) rfl b3]
    dsimp only [Option.toList_none, List.nil_append]
    have hvC1 : pvC pv I1 := fun p' hp' j hj => by rw [a1 2 (by decide), j_up_cell _ (by decide)]; exact hvC p' hp' j hj
    have hvR1 : pvR pv J1 := fun p' hp' j hj => by rw [b1 6 (by decide), j_up_cell _ (by decide)]; exact hvR p' hp' j hj
    have hr1 : rCst J1 := rCst_eq1 hr0 (fun c _ _ => b1 c (by omega))
    obtain ⟨V, I2, J2, c1, c2, c3, c4, c5, c6, c7⟩ := one_sim (d := d) (e := e) (L := L) (L' := L') (pa := pa) (pb := pb) (pu := pu) (pw := pw) (I := I1) (J := J1) (Tc := fun c => solP sv 12 c ∨ Tw c) (Tw := Tw) hp hpv hvR1 hr1 a2 b2 (fun c hc => by rw [a1 101 (by decide), j_up_cell _ (by decide)]; exact tC c hc) (fun c hc => by rw [b1 66 (by decide), j_up_cell _ (by decide)]; exact tR c hc) (by rw [a1 97 (by decide), j_up_self]) (by rw [b1 62 (by decide), j_up_self])
    rw [B79_89, jgo_some (k' := 80) rfl (end1_c (d := d + 2) hp hvC1)]
    dsimp only [Option.toList_some, List.cons_append, List.nil_append]
    rw [B79_97, jgo_some (k' := 80) rfl (end4_c (d := d + 2) hp hvC1)]
    dsimp only [Option.toList_some, List.cons_append, List.nil_append]
    rw [B79_103, jgo_some (k' := 84) rfl c6, B348_92, jgo_some (k' := 349) rfl c7]
    dsimp only [Option.toList_none, List.nil_append]
    have fa : leadFc I I2 := (fc0.trans ⟨fun c hc => a1 c (by omega), fun g _ _ => by rw [a1 96 (by decide)]⟩).trans c4.lead
    have fb : leadFr J J2 := (fr0.trans ⟨fun c _ hc => b1 c (by omega), fun g _ _ => by rw [b1 0 (by decide)]⟩).trans c5.lead
    have i1 : I2 96 1 = nI m := by rw [c4.2.1 1 (by decide), a1 96 (by decide), j_up_cell _ (by decide), hI1]
    have j1 : J2 0 108 = nI m := by rw [c5.2.1 108 (by decide), b1 0 (by decide), j_up_cell _ (by decide), hJ1]
    have wa : ∀ q, q < p + 1 → wr1 q I2 J2 := by
      intro q hq
      by_cases z : q = p
      · rw [z]; exact c3
      · obtain ⟨h1, h2⟩ := w0 q (by omega)
        refine wr1.fr (p := p) (I := I1) (J := J1) ⟨by rw [a1 97 (by decide), b1 62 (by decide), h1], fun w => ?_⟩ z c4 c5
        rw [b1 62 (by decide)] at w
        obtain ⟨x1, x2, n, x3, x4, x5⟩ := h2 w
        exact ⟨by rw [a1 98 (by decide), b1 63 (by decide), x1], by rw [a1 99 (by decide), b1 64 (by decide), x2], n, x3, by rw [b1 63 (by decide), x4], fun k hk => by rw [a1 100 (by decide), b1 65 (by decide), x5 k hk]⟩
    have fin : ∀ t : Nat, t ≤ 1 → ∃ (Tw' : Nat → Prop) (m' : Nat) (I' J' : Nat → Nat → Int32), tkC (fun c => solP sv 12 c ∨ Tw' c) I' ∧ tkR Tw' J' ∧ m' ≤ p + 1 ∧ I' 96 1 = nI m' ∧ J' 0 108 = nI m' ∧ (∀ q, q < p + 1 → wr1 q I' J') ∧ leadFc I I' ∧ leadFr J J' ∧ jv (d + 4) 79 125 [some (.ref 96), some (.ref 1), some (.int (nI p))] [.int (nI t), .int (nI m), .ref 96] (shC, I2, L, pX pa pb pu pw) = jv (d + 4) 79 51 [some (.ref 96), some (.ref 1), some (.int (nI (p + 1)))] [] (shC, I', L, pX pa pb pu pw) ∧ jv (e + 4) 348 116 [some (.ref 0), some (.int (nI p))] [.int (nI t), .int (nI m), .ref 0] (shR, J2, L', pR) = jv (e + 4) 348 44 [some (.ref 0), some (.int (nI (p + 1)))] [] (shR, J', L', pR) := by
      intro t ht
      refine ⟨fun x => Tw x ∨ V x, m + t, j_up I2 96 1 (nI (m + t)), j_up J2 0 108 (nI (m + t)), ?_, ?_, by omega, j_up_self _ _ _ _, j_up_self _ _ _ _, fun q hq => ?_, fa.trans ⟨fun c hc => j_up_cell _ (by omega) _ _, fun g h1 _ => by rw [j_up_own, if_neg h1]⟩, fb.trans ⟨fun c h0 hc => j_up_cell _ h0 _ _, fun g h1 _ => by rw [j_up_own, if_neg h1]⟩, ?_, ?_⟩
      · intro c hc
        rw [j_up_cell _ (by decide), c1 c hc]
        constructor
        · rintro z (w | w | w)
          · exact z (Or.inl (Or.inl w))
          · exact z (Or.inl (Or.inr w))
          · exact z (Or.inr w)
        · rintro z ((w | w) | w)
          · exact z (Or.inl w)
          · exact z (Or.inr (Or.inl w))
          · exact z (Or.inr (Or.inr w))
      · intro c hc
        rw [j_up_cell _ (by decide)]
        exact c2 c hc
      · obtain ⟨h1, h2⟩ := wa q hq
        refine ⟨by rw [j_up_cell _ (by decide), j_up_cell _ (by decide), h1], fun w => ?_⟩
        rw [j_up_cell _ (by decide)] at w
        obtain ⟨x1, x2, n, x3, x4, x5⟩ := h2 w
        exact ⟨by rw [j_up_cell _ (by decide), j_up_cell _ (by decide), x1], by rw [j_up_cell _ (by decide), j_up_cell _ (by decide), x2], n, x3, by rw [j_up_cell _ (by decide), x4], fun k hk => by rw [j_up_cell _ (by decide), j_up_cell _ (by decide), x5 k hk]⟩
      · rw [B79_125, nI_add, B79_129, nI_1]
      · rw [B348_116, nI_add, B348_120, nI_1]
    have w97 := c3.1
    rw [B79_106, if_pos jp, nI_clamp (n := p) (by omega), B348_97, if_pos jp, nI_clamp (n := p) (by omega), i1, j1, w97]
    by_cases z : J2 62 p < 0
    · rw [if_pos z, if_pos z]
      exact fin 0 (by decide)
    · rw [if_neg z, if_neg z]
      exact fin 1 (by decide)
  · have k2 : ¬ nI (pv p 0) = 1 := fun z => k1 ((nI_eq (b := 1) (by omega) (by decide)).mp z)
    rw [if_neg k2, if_neg k2, B79_129, B348_120, nI_1]
    refine ⟨Tw, m, _, _, fun c hc => by rw [j_up_cell _ (by decide)]; exact tC c hc, fun c hc => by rw [j_up_cell _ (by decide)]; exact tR c hc, by omega, by rw [j_up_cell _ (by decide), hI1], by rw [j_up_cell _ (by decide), hJ1], fun q hq => ?_, fc0, fr0, rfl, rfl⟩
    by_cases z : q = p
    · subst z
      refine ⟨by rw [j_up_self, j_up_self], fun w => ?_⟩
      rw [j_up_self] at w
      exact absurd (by decide) w
    · exact w0 q (by omega)
/-- lead() -/
theorem lead_go {I J : Nat → Nat → Int32} (hs : svOk sv) (hpv : pvOk pv) (hsC : svC sv I) (hsR : svR sv J) (hvC : pvC pv I) (hvR : pvR pv J) (hr : rCst J) (h0 : I 0 11 = 0) (h1 : J 0 18 = 0) : ∃ m I' J', (∀ c, (c < 96 ∨ 106 < c) → c ≠ 116 → I' c = I c) ∧ (∀ f, I' 116 f = if f = 10 then 0 else I 116 f) ∧ I' 96 0 = 1 ∧ (∀ c, c ≠ 0 → (c < 62 ∨ 71 < c) → J' c = J c) ∧ (∀ g, g ≠ 107 → g ≠ 108 → g ≠ 119 → J' 0 g = J 0 g) ∧ J' 0 107 = 1 ∧ wayRel I' J' ∧ jv (d + 5) 208 0 [some (.ref 0)] [] (shC, I, L, pX pa pb pu pw) = some (some (.int (nI m)), (shC, I', L, pX pa pb pu pw)) ∧ jv (e + 4) 348 0 [some (.ref 0), none] [] (shR, J, L', pR) = some (some (.int (nI m)), (shR, J', L', pR)) ∧ I' 96 1 = nI m ∧ J' 0 108 = nI m ∧ m ≤ 6 := by
  obtain ⟨I1, a1, a2, a3, a4⟩ := all0_c (d := d + 2) (L := L) (pa := pa) (pb := pb) (pu := pu) (pw := pw) (I := j_up I 116 10 0) hs (fun i hi j hj => by rw [j_up_cell _ (by decide)]; exact hsC i hi j hj)
  obtain ⟨J1, b1, b2, b3, b4⟩ := all0_r (e := e + 4) (L' := L') h1
  have S0 : tkC (fun c => solP sv 12 c ∨ False) I1 := a3.cg (fun c _ => ⟨Or.inl, fun h => h.elim id False.elim⟩)
  have i2 : I1 2 = I 2 := by rw [a1 2 (by decide) (by decide), j_up_cell _ (by decide)]
  have j6 : J1 6 = J 6 := b1 6 (by decide) (by decide)
  obtain ⟨⟨⟨Tw, m⟩, I2, J2⟩, ⟨c1, c2, c3, c4, c5, c6, c7, c8⟩, k1, k2⟩ := j_run2 (α := ldSt) (fun p t => jv (d + 4) 79 51 [some (.ref 96), some (.ref 1), some (.int (nI p))] [] (shC, t.2.1, L, pX pa pb pu pw)) (fun p t => jv (e + 4) 348 44 [some (.ref 0), some (.int (nI p))] [] (shR, t.2.2, L', pR)) (fun p t => tkC (fun c => solP sv 12 c ∨ t.1.1 c) t.2.1 ∧ tkR t.1.1 t.2.2 ∧ t.1.2 ≤ p ∧ t.2.1 96 1 = nI t.1.2 ∧ t.2.2 0 108 = nI t.1.2 ∧ (∀ q, q < p → wr1 q t.2.1 t.2.2) ∧ leadFc I1 t.2.1 ∧ leadFr J1 t.2.2) 6 (fun p hp t ht => by
    obtain ⟨⟨Tw, m⟩, I2, J2⟩ := t
    obtain ⟨c1, c2, c3, c4, c5, c6, c7, c8⟩ := ht
    dsimp only at c1 c2 c3 c4 c5 c6 c7 c8 ⊢
    have hvC2 : pvC pv I2 := fun p' hp' j hj => by rw [c7.1 2 (by decide), i2]; exact hvC p' hp' j hj
    have hvR2 : pvR pv J2 := fun p' hp' j hj => by rw [c8.1 6 (by decide) (by decide), j6]; exact hvR p' hp' j hj
    have hsR2 : svR sv J2 := hsR.fr (by rw [c8.1 6 (by decide) (by decide), j6])
    have hr2 : rCst J2 := rCst_eq1 hr (fun c hc h6 => by rw [c8.1 c hc (by omega), b1 c hc (by omega)])
    obtain ⟨Tw', m', I3, J3, g1, g2, g3, g4, g5, g6, g7, g8, g9, g0⟩ := pipe_sim (d := d) (e := e) (L := L) (L' := L') (pa := pa) (pb := pb) (pu := pu) (pw := pw) hp hs hpv hvC2 hvR2 hsR2 hr2 c1 c2 c3 c4 c5 c6
    exact ⟨((Tw', m'), I3, J3), ⟨g1, g2, g3, g4, g5, g6, c7.trans g7, c8.trans g8⟩, g9, g0⟩) (((fun _ => False), 0), I1, J1) ⟨S0, b3, Nat.le_refl _, by dsimp only; rw [a2, if_pos rfl]; rfl, by dsimp only; rw [b2, if_pos rfl]; rfl, fun q hq => absurd hq (Nat.not_lt_zero _), ⟨fun _ _ => rfl, fun _ _ _ => rfl⟩, ⟨fun _ _ _ => rfl, fun _ _ _ => rfl⟩⟩
  dsimp only at c1 c2 c3 c4 c5 c6 c7 c8 k1 k2
  have hend : jv (d + 4) 79 0 [some (.ref 96), some (.ref 1), none] [] (shC, j_up I 116 10 0, L, pX pa pb pu pw) = some (none, (shC, j_up I2 96 0 1, L, pX pa pb pu pw)) := by
    rw [a4]
    refine (show _ = _ from k1).trans ?_
    rw [B79_51, if_neg (by decide), if_pos (by decide)]
  refine ⟨m, j_up I2 96 0 1, J2, fun c hc h6 => ?_, fun f => ?_, j_up_self _ _ _ _, fun c h0 hc => ?_, fun g g1 g2 g3 => ?_, ?_, fun q hq => ?_, ?_, ?_, ?_, c5, by omega⟩
  · rw [j_up_cell _ (by omega), c7.1 c hc, a1 c (by omega) (by omega), j_up_cell _ h6]
  · rw [j_up_cell _ (by decide), c7.1 116 (by decide), a1 116 (by decide) (by decide), j_up_own]
  · rw [c8.1 c h0 hc, b1 c h0 (by omega)]
  · rw [c8.2 g g2 g3, b2, if_neg g2, if_neg g1]
  · rw [c8.2 107 (by decide) (by decide), b2, if_neg (by decide), if_pos rfl]
  · obtain ⟨h1, h2⟩ := c6 q hq
    refine ⟨by rw [j_up_cell _ (by decide), h1], fun w => ?_⟩
    obtain ⟨x1, x2, n, x3, x4, x5⟩ := h2 w
    exact ⟨by rw [j_up_cell _ (by decide), x1], by rw [j_up_cell _ (by decide), x2], n, x3, x4, fun k hk => by rw [j_up_cell _ (by decide), x5 k hk]⟩
  · rw [B208_0, if_pos h0, if_pos (by decide), jgo_some rfl hend]
    dsimp only [Option.toList_none, List.nil_append]
    rw [B208_29, j_up_own, if_neg (by decide), c4]
  · rw [b4]
    refine (show _ = _ from k2).trans ?_
    rw [B348_44, if_neg (by decide), c5]
  · rw [j_up_own, if_neg (by decide), c4]
end LEADR
