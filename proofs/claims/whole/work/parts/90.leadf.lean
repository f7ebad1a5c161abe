/-! PIPES: the class's search, to its end -/
def z0f (M to j z : Nat) : Nat := if z / 6 = to ∧ z % 6 < j then 0 else M
theorem z0_zero (M to z : Nat) : z0f M to 0 z = M := if_neg (by omega)
theorem z0_in {M to j z : Nat} (h : z / 6 = to ∧ z % 6 < j) : z0f M to j z = 0 := if_pos h
theorem z0_out {M to j z : Nat} (h : ¬ (z / 6 = to ∧ z % 6 < j)) : z0f M to j z = M := if_neg h
theorem z0_six (M to z : Nat) : z0f M to 6 z = if z / 6 = to then 0 else M := by
  by_cases q : z / 6 = to
  · rw [if_pos q, z0_in ⟨q, by omega⟩]
  · rw [if_neg q, z0_out (fun w => q w.1)]
theorem z0_succ {M to j : Nat} (hj : j < 6) (z : Nat) : upO (z0f M to j) (6 * to + j) (min (z0f M to j (6 * to + j)) 0) z = z0f M to (j + 1) z := by
  by_cases e : z = 6 * to + j
  · subst e
    rw [upO_s, z0_in (j := j + 1) (by omega), Nat.min_eq_right (Nat.zero_le _)]
  · rw [upO_n _ _ e]
    by_cases q : z / 6 = to ∧ z % 6 < j
    · rw [z0_in q, z0_in (by omega)]
    · rw [z0_out q, z0_out (by omega)]
section LEADF
variable {d : Nat} {L : Nat → Nat → Int64} {pa pb pu pw : Option Nat} {I : Nat → Nat → Int32} {B : Nat → Prop} {to fr now : Nat} {Z : Nat → Prop} {f : Nat → Nat} {K : Nat}
/-- one state that waits is worked out -/
theorem exp_c {i c s : Nat} (hB : ¬ B fr) (hfr : fr < 1600) (hto : to < 1600) (hn : now ≤ 9600) (hi : i < 9600) (S : srC B to fr now Z f K I) (hc : c < 1600) (hs : s < 6) (hx : wtN 1048576 Z f (6 * c + s)) (hf : f (6 * c + s) = now) (hh : I 104 (now % 8) = nI (6 * c + s)) (o6 o7 o8 o9 o10 : Option Value) : ∃ f' K' I' q6 q7 q8 q9 q10, srC B to fr now (fun y => y = 6 * c + s ∨ Z y) f' K' I' ∧ (∀ y, (wtN 1048576 (fun y => y = 6 * c + s ∨ Z y) f' y ∧ f' y = now) ↔ y ≠ 6 * c + s ∧ wtN 1048576 Z f y ∧ f y = now) ∧ fQ I I' ∧ jv (d + 2) 87 77 [some (.ref 96), some (.int (nI fr)), some (.int (nI to)), some (.int (nI K)), some (.int (nI now)), some (.int (nI i)), o6, o7, o8, o9, o10] [] (shC, I, L, pX pa pb pu pw) = jv (d + 2) 87 77 [some (.ref 96), some (.int (nI fr)), some (.int (nI to)), some (.int (nI K')), some (.int (nI now)), some (.int (nI (i + 1))), q6, q7, q8, q9, q10] [] (shC, I', L, pX pa pb pu pw) := by
  obtain ⟨D, Q, hl, hb⟩ := S
  have hK := hl.1
  have c2 := cs_two s
  obtain ⟨I1, a1, a2, a3, a4⟩ := drop_c (d := d + 1) (L := L) (pa := pa) (pb := pb) (pu := pu) (pw := pw) Q hx
  have jk : j_in (nI (now % 8)) 8 = true := j_in_nI (Nat.mod_lt _ (by decide)) (by decide)
  have Q1 : que (wtN 1048576 (fun y => y = 6 * c + s ∨ Z y) f) f I1 := a3.cg (fun z => by
    unfold wtN
    constructor
    · rintro ⟨h1, h2, h3, h4⟩
      exact ⟨h2, h3, fun w => w.elim h1 h4⟩
    · rintro ⟨h2, h3, h4⟩
      exact ⟨fun w => h4 (Or.inl w), h2, h3, fun w => h4 (Or.inr w)⟩) (fun _ => rfl)
  have hb1 := hb.fr a1
  have same : ∀ y, (wtN 1048576 (fun y => y = 6 * c + s ∨ Z y) f y ∧ f y = now) ↔ y ≠ 6 * c + s ∧ wtN 1048576 Z f y ∧ f y = now := by
    intro y
    unfold wtN
    constructor
    · rintro ⟨⟨h1, h2, h3⟩, h4⟩
      exact ⟨fun w => h3 (Or.inl w), ⟨h1, h2, fun w => h3 (Or.inr w)⟩, h4⟩
    · rintro ⟨h0, ⟨h1, h2, h3⟩, h4⟩
      exact ⟨⟨h1, h2, fun w => w.elim h0 h3⟩, h4⟩
  rw [B87_77, if_pos (show nI i < 9600 from nI_lt (b := 9600) hi (by decide)), if_neg (by decide), show nI now - nI now / 8 * 8 = nI (now % 8) from nI_mod (b := 8) (by omega) (by decide), if_pos jk, nI_clamp (n := now % 8) (by omega), hh, if_neg (nI_pos (by omega)), if_neg (by decide), if_pos jk, jgo_some rfl a4]
  dsimp only [Option.toList_none, List.nil_append]
  rw [B87_116, if_neg (by decide), if_neg (by decide), show nI (6 * c + s) - nI (6 * c + s) / 6 * 6 = nI ((6 * c + s) % 6) from nI_mod (b := 6) (by omega) (by decide), show nI (6 * c + s) / 6 = nI ((6 * c + s) / 6) from nI_div (b := 6) (by omega) (by decide), show (6 * c + s) % 6 = s by omega, show (6 * c + s) / 6 = c by omega, bk_x hs, jgo_some rfl (nb_c hc (bk_lt hs) none none none)]
  dsimp only [Option.toList_some, List.cons_append, List.nil_append]
  rw [B87_135]
  cases e : nbO c (bkS s) with
  | none =>
    have no : ∀ p, p < 1600 → ¬ stp p s c := by
      intro p hp z
      have := (nbO_iff hc (bk_lt hs)).mpr ((stp_bk hs hc hp).mpr z)
      rw [e] at this
      cases this
    rw [if_pos oN_none, B87_223, nI_1]
    exact ⟨f, K, I1, _, _, _, _, _, ⟨D.skip hc hs hf (by omega) (fun p hp z _ => absurd z (no p hp)), Q1, lst_skip hs hf hl (no fr hfr), hb1⟩, same, a1, rfl⟩
  | some p =>
    have h1 := (nbO_iff hc (bk_lt hs)).mp e
    have hp := stp_lt hc h1
    have h2 := (stp_bk hs hc hp).mp h1
    have un : ∀ p', p' < 1600 → stp p' s c → p' = p := fun p' hp' z => stp_fn ((stp_bk hs hc hp').mpr z) h1
    rw [if_neg (oN_some (by omega)), show oN (some p) = nI p from rfl, if_pos (j_in_nI hp (by decide)), nI_clamp (n := p) (by omega)]
    by_cases q : B p
    · rw [if_neg (fun z => (hb1 p hp).mp z q), B87_223, nI_1]
      exact ⟨f, K, I1, _, _, _, _, _, ⟨D.skip hc hs hf (by omega) (fun p' hp' z w => absurd q ((un p' hp' z) ▸ w)), Q1, lst_skip hs hf hl (fun z => hB ((un fr hfr z).symm ▸ q)), hb1⟩, same, a1, rfl⟩
    · rw [if_pos ((hb1 p hp).mpr q), jgo_some rfl (cst_c hs)]
      dsimp only [Option.toList_some, List.cons_append, List.nil_append]
      rw [B87_159, nI_add]
      have hz : ∀ y, y = 6 * c + s ∨ Z y → f y ≤ now := by
        rintro y (rfl | z)
        · omega
        · exact (D.2.1 y z).2
      obtain ⟨I2, b1, b2, b3⟩ := rlx_c (d := d) (L := L) (pa := pa) (pb := pb) (pu := pu) (pw := pw) (fr := fr) (to := to) (K := if p = fr then min K (now + csN s) else K) (i := i) (x := 6 * c + s) (p := p) (s := s) hs hp hz (by omega) Q1
      have key : (if nI p = nI fr then jv (d + 2) 87 178 [some (.ref 96), some (.int (nI fr)), some (.int (nI to)), some (.int (nI K)), some (.int (nI now)), some (.int (nI i)), some (.int (nI (6 * c + s))), some (.int (nI s)), some (.int (nI p)), some (.int (nI (now + csN s))), o10] [.int (if nI (now + csN s) < nI K then nI (now + csN s) else nI K)] (shC, I1, L, pX pa pb pu pw) else jv (d + 2) 87 178 [some (.ref 96), some (.int (nI fr)), some (.int (nI to)), some (.int (nI K)), some (.int (nI now)), some (.int (nI i)), some (.int (nI (6 * c + s))), some (.int (nI s)), some (.int (nI p)), some (.int (nI (now + csN s))), o10] [.int (nI K)] (shC, I1, L, pX pa pb pu pw)) = jv (d + 2) 87 182 [some (.ref 96), some (.int (nI fr)), some (.int (nI to)), some (.int (nI (if p = fr then min K (now + csN s) else K))), some (.int (nI now)), some (.int (nI i)), some (.int (nI (6 * c + s))), some (.int (nI s)), some (.int (nI p)), some (.int (nI (now + csN s))), some (.int (nI 0))] [] (shC, I1, L, pX pa pb pu pw) := by
        by_cases q2 : p = fr
        · rw [if_pos ((nI_eq (by omega) (by omega)).mpr q2), if_pos q2, B87_178]
          by_cases q3 : now + csN s < K
          · rw [if_pos (nI_lt q3 (by omega)), Nat.min_eq_right (by omega)]
            rfl
          · rw [if_neg (nI_nlt (by omega) (by omega)), Nat.min_eq_left (by omega)]
            rfl
        · rw [if_neg (fun z => q2 ((nI_eq (by omega) (by omega)).mp z)), if_neg q2, B87_178]
          rfl
      rw [key, b3, B87_223, nI_1]
      refine ⟨rlx f p s now 6, _, I2, _, _, _, _, _, ⟨D.go hc hs hp hx.2.2 hf (by omega) h2 q, b2, lst_go D hc hs hp hf hfr h2 hl (fun y hy => rlx_low (hz y hy)), hb1.fr b1⟩, fun y => ?_, a1.trans b1, rfl⟩
      rw [← same y]
      unfold wtN
      have le := rlx_le f p s now 6 y
      have eq : rlx f p s now 6 y = now ↔ f y = now := by
        constructor
        · intro z
          by_cases w : f y ≤ now
          · rw [rlx_low w] at z; exact z
          · have := pr_two s (y % 6)
            unfold rlx at z
            split at z <;> omega
        · intro z
          rw [rlx_low (by omega), z]
      constructor
      · rintro ⟨⟨h3, h4, h5⟩, h6⟩
        have := eq.mp h6
        exact ⟨⟨h3, by omega, h5⟩, this⟩
      · rintro ⟨⟨h3, h4, h5⟩, h6⟩
        exact ⟨⟨h3, by omega, h5⟩, eq.mpr h6⟩
/-- all that wait at the cost now -/
theorem rnd_c (hB : ¬ B fr) (hfr : fr < 1600) (hto : to < 1600) (hn : now ≤ 9600) : ∀ (m i : Nat) (Z : Nat → Prop) (f : Nat → Nat) (K : Nat) (I : Nat → Nat → Int32) (o6 o7 o8 o9 o10 : Option Value), srC B to fr now Z f K I → cnN (fun y => wtN 1048576 Z f y ∧ f y = now) 9600 = m → i + m ≤ 9600 → ∃ Z' f' K' I' i' q6 q7 q8 q9 q10, srC B to fr now Z' f' K' I' ∧ (∀ x, wtN 1048576 Z' f' x → f' x ≠ now) ∧ fQ I I' ∧ jv (d + 2) 87 77 [some (.ref 96), some (.int (nI fr)), some (.int (nI to)), some (.int (nI K)), some (.int (nI now)), some (.int (nI i)), o6, o7, o8, o9, o10] [] (shC, I, L, pX pa pb pu pw) = jv (d + 2) 87 53 [some (.ref 96), some (.int (nI fr)), some (.int (nI to)), some (.int (nI K')), some (.int (nI (now + 1))), some (.int (nI i')), q6, q7, q8, q9, q10] [] (shC, I', L, pX pa pb pu pw) := by
  intro m
  induction m with
  | zero =>
    intro i Z f K I o6 o7 o8 o9 o10 S hm hi
    have none' : ∀ x, wtN 1048576 Z f x → f x ≠ now := fun x hx z => cnN_zero hm x hx.1 ⟨hx, z⟩
    refine ⟨Z, f, K, I, i, o6, o7, o8, o9, o10, S, none', fQ.rfl' I, ?_⟩
    rw [B87_77]
    by_cases q : i < 9600
    · rw [if_pos (show nI i < 9600 from nI_lt (b := 9600) q (by decide)), if_neg (by decide), show nI now - nI now / 8 * 8 = nI (now % 8) from nI_mod (b := 8) (by omega) (by decide), if_pos (j_in_nI (Nat.mod_lt _ (by decide)) (by decide)), nI_clamp (n := now % 8) (by omega)]
      rcases S.2.1.head (Nat.mod_lt now (by decide)) with ⟨z, -⟩ | ⟨w, z1, z2, z3, z4⟩
      · rw [if_pos z, B87_229, nI_1]
      · exfalso
        have := S.1.2.2.1 w z2.1 z2.2.1 z2.2.2
        exact none' w z2 (by omega)
    · rw [if_neg (show ¬ nI i < 9600 from nI_nlt (b := 9600) (by omega) (by omega)), B87_229, nI_1]
  | succ m ih =>
    intro i Z f K I o6 o7 o8 o9 o10 S hm hi
    rcases S.2.1.head (Nat.mod_lt now (by decide)) with ⟨z1, z2⟩ | ⟨w, z1, z2, z3, z4⟩
    · exfalso
      have : cnN (fun y => wtN 1048576 Z f y ∧ f y = now) 9600 = 0 := by
        rcases Nat.eq_zero_or_pos (cnN (fun y => wtN 1048576 Z f y ∧ f y = now) 9600) with q | q
        · exact q
        · exfalso
          have e0 : cnN (fun y => wtN 1048576 Z f y ∧ f y = now) 9600 = cnN (fun _ => False) 9600 := cnN_eq (fun y _ => ⟨fun w => z2 y w.1 (by rw [w.2]), fun w => w.elim⟩)
          have all : ∀ n, cnN (fun _ => False) n = 0 := by
            intro n
            induction n with
            | zero => rfl
            | succ n ih => unfold cnN; rw [ih, if_neg (fun z => z)]
          rw [e0, all] at q
          omega
      omega
    · have hw := S.1.2.2.1 w z2.1 z2.2.1 z2.2.2
      have ew : w = 6 * (w / 6) + w % 6 := by omega
      have fw : f w = now := by omega
      rw [ew] at z1 z2 fw
      obtain ⟨f', K', I', q6, q7, q8, q9, q10, g1, g2, g3, g4⟩ := exp_c (d := d) (L := L) (pa := pa) (pb := pb) (pu := pu) (pw := pw) (i := i) hB hfr hto hn (by omega) S (by omega) (by omega) z2 fw z1 o6 o7 o8 o9 o10
      have cn : cnN (fun y => wtN 1048576 Z f y ∧ f y = now) 9600 = cnN (fun y => wtN 1048576 (fun y => y = 6 * (w / 6) + w % 6 ∨ Z y) f' y ∧ f' y = now) 9600 + 1 := by
        refine cnN_add (x := 6 * (w / 6) + w % 6) (by omega) ⟨z2, fw⟩ (fun z => ((g2 _).mp z).1 rfl) (fun y hy => ⟨fun z => (g2 y).mpr ⟨hy, z⟩, fun z => ((g2 y).mp z).2⟩)
      obtain ⟨Z2, f2, K2, I2, i2, r6, r7, r8, r9, r10, h1, h2, h3, h4⟩ := ih (i + 1) _ f' K' I' q6 q7 q8 q9 q10 g1 (by omega) (by omega)
      exact ⟨Z2, f2, K2, I2, i2, r6, r7, r8, r9, r10, h1, h2, g3.trans h3, g4.trans h4⟩
/-- what the search answers -/
def srE (B : Nat → Prop) (to fr : Nat) (Z : Nat → Prop) (f : Nat → Nat) (K : Nat) (I : Nat → Nat → Int32) : Prop := tab 1048576 B to Z f ∧ lstP 1048576 Z f fr K ∧ (∀ c s, c < 1600 → s < 6 → f (6 * c + s) < K → Z (6 * c + s)) ∧ ∀ x, x < 9600 → I 103 x = nI (f x) ∧ f x ≤ 1048576
theorem sea_c (hB : ¬ B fr) (hfr : fr < 1600) (hto : to < 1600) : ∀ (r now : Nat) (Z : Nat → Prop) (f : Nat → Nat) (K : Nat) (I : Nat → Nat → Int32) (o5 o6 o7 o8 o9 o10 : Option Value), srC B to fr now Z f K I → now + r = 9601 → ∃ Z' f' K' I', srE B to fr Z' f' K' I' ∧ fQ I I' ∧ jv (d + 2) 87 53 [some (.ref 96), some (.int (nI fr)), some (.int (nI to)), some (.int (nI K)), some (.int (nI now)), o5, o6, o7, o8, o9, o10] [] (shC, I, L, pX pa pb pu pw) = some (some (.int (nI K')), (shC, I', L, pX pa pb pu pw)) := by
  intro r
  induction r with
  | zero =>
    intro now Z f K I o5 o6 o7 o8 o9 o10 S hr
    have hK := S.2.2.1.1
    refine ⟨Z, f, K, I, ⟨S.1.1, S.2.2.1, fun c s hc hs hf => ?_, S.2.1.left⟩, fQ.rfl' I, ?_⟩
    · refine Classical.byContradiction fun z => ?_
      have := S.1.2.2.1 (6 * c + s) (by omega) (by omega) z
      have := S.1.fin (x := 6 * c + s) (by omega) (by omega)
      omega
    · rw [B87_53, if_pos (show (9600 : Int32) < nI now from nI_lt (a := 9600) (by omega) (by omega)), B87_235]
  | succ r ih =>
    intro now Z f K I o5 o6 o7 o8 o9 o10 S hr
    have hK := S.2.2.1.1
    have many := S.2.1.many
    have le := cnN_le (wtN 1048576 Z f) 9600
    rw [B87_53, if_neg (show ¬ (9600 : Int32) < nI now from nI_nlt (a := 9600) (by omega) (by decide)), many]
    by_cases q : cnN (wtN 1048576 Z f) 9600 = 0
    · refine ⟨Z, f, K, I, ⟨S.1.1, S.2.2.1, fun c s hc hs hf => ?_, S.2.1.left⟩, fQ.rfl' I, ?_⟩
      · refine Classical.byContradiction fun z => ?_
        exact cnN_zero q (6 * c + s) (by omega) ⟨by omega, by omega, z⟩
      · rw [q, if_neg (by decide), B87_235]
    · rw [if_pos (show (0 : Int32) < nI (cnN (wtN 1048576 Z f) 9600) from nI_lt (a := 0) (by omega) (by omega))]
      by_cases q2 : now < K
      · rw [if_pos (nI_lt q2 (by omega))]
        obtain ⟨Z', f', K', I', i', q6, q7, q8, q9, q10, g1, g2, g3, g4⟩ := rnd_c (d := d) (L := L) (pa := pa) (pb := pb) (pu := pu) (pw := pw) (now := now) hB hfr hto (by omega) _ 0 Z f K I o6 o7 o8 o9 o10 S rfl (by have := cnN_le (fun y => wtN 1048576 Z f y ∧ f y = now) 9600; omega)
        obtain ⟨Z2, f2, K2, I2, h1, h2, h3⟩ := ih (now + 1) Z' f' K' I' (some (.int (nI i'))) q6 q7 q8 q9 q10 ⟨g1.1.next g2, g1.2.1, g1.2.2.1, g1.2.2.2⟩ (by omega)
        exact ⟨Z2, f2, K2, I2, h1, g3.trans h2, (show _ = _ from g4).trans h3⟩
      · rw [if_neg (nI_nlt (by omega) (by omega)), B87_235]
        refine ⟨Z, f, K, I, ⟨S.1.1, S.2.2.1, fun c s hc hs hf => ?_, S.2.1.left⟩, fQ.rfl' I, rfl⟩
        refine Classical.byContradiction fun z => ?_
        have := S.1.2.2.1 (6 * c + s) (by omega) (by omega) z
        omega
/-- search() -/
theorem search_c (hB : ¬ B fr) (hfr : fr < 1600) (hto : to < 1600) (hb : brC B I) : ∃ Z' f' K' I', srE B to fr Z' f' K' I' ∧ fQ I I' ∧ jv (d + 2) 87 0 [some (.ref 96), some (.int (nI fr)), some (.int (nI to)), none, none, none, none, none, none, none, none] [] (shC, I, L, pX pa pb pu pw) = some (some (.int (nI K')), (shC, I', L, pX pa pb pu pw)) := by
  rw [B87_0, jgo_some rfl (fill_int (d := d + 1) (a := 103) (n := 9600) (sh := shC) rfl (by decide) 1048576 none none I L (pX pa pb pu pw))]
  dsimp only [Option.toList_none, List.nil_append]
  rw [B87_9, jgo_some rfl (fill_int (d := d + 1) (a := 104) (n := 8) (sh := shC) rfl (by decide) (-1) none none _ L (pX pa pb pu pw))]
  dsimp only [Option.toList_none, List.nil_append]
  rw [B87_17]
  generalize hI0 : j_up (va_up (va_up I 103 (j_fill (I 103) (fun _ => 1048576) 9600)) 104 (j_fill (va_up I 103 (j_fill (I 103) (fun _ => 1048576) 9600) 104) (fun _ => -1) 8)) 96 12 0 = I0
  have f0 : fQ I I0 := by
    subst hI0
    refine ⟨fun c b1 b2 b3 b4 b5 => ?_, fun g hg => ?_⟩
    · rw [j_up_cell _ b1, va_up_ne _ _ b3, va_up_ne _ _ b2]
    · rw [j_up_own, if_neg hg, va_up_ne _ _ (by decide), va_up_ne _ _ (by decide)]
  have Q0 : que (fun _ => False) (fun _ => 1048576) I0 := by
    subst hI0
    refine que_none (fun k hk => ?_) (fun x hx => ⟨?_, Nat.le_refl _⟩) (j_up_self _ _ _ _)
    · rw [j_up_cell _ (by decide), va_up_self]
      exact if_pos hk
    · rw [j_up_cell _ (by decide), va_up_ne _ _ (by decide), va_up_self]
      exact if_pos hx
  obtain ⟨I1, ⟨a1, a2⟩, a3⟩ := j_runP (α := Nat → Nat → Int32) (fun j I1 => jv (d + 2) 87 24 [some (.ref 96), some (.int (nI fr)), some (.int (nI to)), some (.int (nI j)), none, none, none, none, none, none, none] [] (shC, I1, L, pX pa pb pu pw)) (fun j I1 => fQ I0 I1 ∧ que (fun z => z < 9600 ∧ z / 6 = to ∧ z % 6 < j) (z0f 1048576 to j) I1) 6 (fun j hj I1 hI => by
    obtain ⟨b1, b2⟩ := hI
    try dsimp only
    have e1 : nI to * 6 + nI j = nI (6 * to + j) := by rw [show nI to * 6 = nI (to * 6) from nI_mul to 6, nI_add, Nat.mul_comm]
    have out : z0f 1048576 to j (6 * to + j) = 1048576 := z0_out (by omega)
    obtain ⟨I2, c1, c2, c3⟩ := offer_c (d := d) (L := L) (pa := pa) (pb := pb) (pu := pu) (pw := pw) (y := 6 * to + j) (n := 0) b2 (by omega) (by decide) (fun q => by
      rw [out]
      constructor
      · intro z; omega
      · intro z; omega) none
    refine ⟨I2, ⟨b1.trans c1, c2.cg (fun z => ?_) (fun z => z0_succ hj z)⟩, ?_⟩
    · rw [out]
      omega
    · rw [B87_24, if_pos (show nI j < 6 from nI_lt (b := 6) hj (by decide)), e1, jgo_some rfl c3]
      dsimp only [Option.toList_none, List.nil_append]
      rw [B87_41, nI_1]) I0 ⟨fQ.rfl' _, Q0.cg (fun z => ⟨False.elim, fun w => by omega⟩) (fun z => (z0_zero _ _ z).symm)⟩
  have D : djk 1048576 B to 0 (fun _ => False) (z0f 1048576 to 6) := djk_init B (by decide) (fun x hx => z0_six _ _ x) hto
  have S : srC B to fr 0 (fun _ => False) (z0f 1048576 to 6) 1048576 I1 := by
    refine ⟨D, a2.cg (fun z => ?_) (fun z => rfl), ⟨Nat.le_refl _, Or.inl rfl, fun _ _ _ z => z.elim⟩, (hb.fr f0).fr a1⟩
    unfold wtN
    constructor
    · rintro ⟨h1, h2⟩
      exact ⟨h1, by rw [z0_in h2]; decide, fun w => w⟩
    · rintro ⟨h1, h2, -⟩
      refine ⟨h1, Classical.byContradiction fun w => ?_⟩
      rw [z0_out w] at h2
      exact absurd h2 (by decide)
  obtain ⟨Z', f', K', I', g1, g2, g3⟩ := sea_c (d := d) (L := L) (pa := pa) (pb := pb) (pu := pu) (pw := pw) hB hfr hto 9601 0 _ _ _ I1 none none none none none none S rfl
  refine ⟨Z', f', K', I', g1, (f0.trans a1).trans g2, (show _ = _ from a3).trans ?_⟩
  rw [B87_24, if_neg (by decide)]
  exact g3
end LEADF
