/-! CRASH, REOPEN -/
section SECM
variable {I J I2 J2 I1 J1 : Nat → Nat → Int32} {L L' L2 L2' L1 L1' : Nat → Nat → Int64} {S T : jS} {B g g' N N0 cms z d e : Nat} {m b : Nat → Int32} {F F' : Nat → Int32} {M : Nat → Nat → Int32} {s : Nat → Nat} {pa pb pu pw : Option Nat}
theorem crI_o (k : Nat) {c : Nat} (h0 : c ≠ 0) (h1 : c ≠ 8) (h2 : c ≠ 13) (h3 : c ≠ 18) (h4 : c ≠ 23) (h5 : c ≠ 60) (h6 : c ≠ 83) (h7 : c ≠ 96) (h8 : c ≠ 107) (h9 : c ≠ 116) : crI I k c = I c := by
  unfold crI
  rw [j_up_cell _ h0, fwI_o h5 h6 h7 h8 h9, j_up_cell _ h3, j_up_cell _ h2, j_up_cell _ h1, j_up_cell _ h4]
theorem crI_0 (k f : Nat) : crI I k 0 f = if f = 11 then 1 else I 0 f := by
  unfold crI
  rw [j_up_own, fwI_o (by decide) (by decide) (by decide) (by decide) (by decide), j_up_cell _ (by decide), j_up_cell _ (by decide), j_up_cell _ (by decide), j_up_cell _ (by decide)]
theorem crI_p (k : Nat) : crI I k 8 0 = 0 ∧ crI I k 13 0 = 0 ∧ crI I k 18 0 = 0 := by
  unfold crI
  refine ⟨?_, ?_, ?_⟩
  · rw [j_up_cell _ (by decide), fwI_o (by decide) (by decide) (by decide) (by decide) (by decide), j_up_cell _ (by decide), j_up_cell _ (by decide), j_up_eq]
  · rw [j_up_cell _ (by decide), fwI_o (by decide) (by decide) (by decide) (by decide) (by decide), j_up_cell _ (by decide), j_up_eq]
  · rw [j_up_cell _ (by decide), fwI_o (by decide) (by decide) (by decide) (by decide) (by decide), j_up_eq]
theorem crI_23 (k : Nat) : crI I k 23 1 = nI k := by
  unfold crI
  rw [j_up_cell _ (by decide), fwI_o (by decide) (by decide) (by decide) (by decide) (by decide), j_up_cell _ (by decide), j_up_cell _ (by decide), j_up_cell _ (by decide), j_up_eq]
theorem crI_k (k : Nat) : crI I k 60 2 = 0 ∧ crI I k 83 0 = 0 ∧ crI I k 96 0 = 0 ∧ crI I k 107 0 = 0 ∧ crI I k 107 1 = 0 ∧ crI I k 116 10 = 0 ∧ crI I k 60 6 = I 60 6 := by
  unfold crI fwI
  refine ⟨?_, ?_, ?_, ?_, ?_, ?_, ?_⟩
  · rw [j_up_cell _ (by decide), j_up_cell _ (by decide), j_up_cell _ (by decide), j_up_cell _ (by decide), j_up_cell _ (by decide), j_up_cell _ (by decide), j_up_eq]
  · rw [j_up_cell _ (by decide), j_up_cell _ (by decide), j_up_cell _ (by decide), j_up_cell _ (by decide), j_up_cell _ (by decide), j_up_eq]
  · rw [j_up_cell _ (by decide), j_up_cell _ (by decide), j_up_cell _ (by decide), j_up_cell _ (by decide), j_up_eq]
  · rw [j_up_cell _ (by decide), j_up_cell _ (by decide), j_up_own2 _ _ _ (by decide), j_up_eq]
  · rw [j_up_cell _ (by decide), j_up_cell _ (by decide), j_up_eq]
  · rw [j_up_cell _ (by decide), j_up_eq]
  · rw [j_up_cell _ (by decide), j_up_cell _ (by decide), j_up_cell _ (by decide), j_up_cell _ (by decide), j_up_cell _ (by decide), j_up_cell _ (by decide), j_up_own2 _ _ _ (by decide), j_up_cell _ (by decide), j_up_cell _ (by decide), j_up_cell _ (by decide), j_up_cell _ (by decide)]
theorem crJ_o (k : Nat) {c : Nat} (h0 : c ≠ 0) (h1 : c ≠ 9) (h2 : c ≠ 11) (h3 : c ≠ 12) (h4 : c ≠ 13) : crJ J k c = J c := by
  unfold crJ
  rw [fgJ_o h0, endJ_o _ _ h1 h2 h3 h4, endJ_o _ _ h1 h2 h3 h4, endJ_o _ _ h1 h2 h3 h4, j_up_cell _ h0, j_up_cell _ h0]
theorem crJ_0 (k f : Nat) : crJ J k 0 f = if f = 120 then 0 else if f = 107 then 0 else if f = 103 then 0 else if f = 87 then 0 else if f = 59 then 0 else if f = 18 then 1 else if f = 17 then nI k else J 0 f := by
  unfold crJ
  rw [fgJ_0, endJ_o _ _ (by decide) (by decide) (by decide) (by decide), endJ_o _ _ (by decide) (by decide) (by decide) (by decide), endJ_o _ _ (by decide) (by decide) (by decide) (by decide), j_up_own, j_up_own]
theorem crJ_9 (k : Nat) : crJ J k 9 0 = 0 ∧ crJ J k 9 1 = 0 ∧ crJ J k 9 2 = 0 := by
  unfold crJ
  rw [fgJ_o (by decide)]
  refine ⟨?_, ?_, ?_⟩
  · rw [endJ_9, if_neg (by decide), endJ_9, if_neg (by decide), endJ_9, if_pos rfl]
  · rw [endJ_9, if_neg (by decide), endJ_9, if_pos rfl]
  · rw [endJ_9, if_pos rfl]
/-- crash -/
theorem a_crash (h : RelS B S T) (x : Int32) : alk B (jv 1900 181 0 [some (.ref 0), some (.int x), none] [] S) (jv 1900 238 0 [some (.ref 0), some (.int x), none] [] T) := by
  obtain ⟨g, g', N, I, J, L, L', pu, pw, hg, hN, rfl, rfl, hR⟩ := h
  have hS : RelS B (shC, I, L, pX (some g) (some g') pu pw) (shR, J, L', pR) := RelS.mk hg hN hR
  obtain ⟨F, cms, M, s, z, hb, hl, hk, hr⟩ := id hR
  obtain ⟨l1, ⟨l2a, l2b, l2c, l2d⟩, l3, l4, l5, l6, l7, l8, l9⟩ := id hl
  rcases crash_ask (d := 1899) (e := 1899) (L := L) (L' := L') (pa := some g) (pb := some g') (pu := pu) (pw := pw) l2b l2c l2a hb.2.2.2 x with q | ⟨k, hkz, v, q1, q2⟩
  · exact alk.ask hS q
  obtain ⟨p8, p13, p18⟩ := crI_p (I := I) k
  obtain ⟨j9, j91, j92⟩ := crJ_9 (J := J) k
  obtain ⟨c60, c83, c96, c107, c1071, c116, c606⟩ := crI_k (I := I) k
  have gb : 38 ≤ g ∧ g + 10 < 60 := by rcases hg with ⟨rfl, rfl⟩ | ⟨rfl, rfl⟩ <;> decide
  have fI : ∀ c, c ≠ 0 → c ≠ 8 → c ≠ 13 → c ≠ 18 → c ≠ 23 → c < 60 ∨ (60 < c ∧ c < 83) → crI I k c = I c := fun c h0 h1 h2 h3 h4 h5 => crI_o k h0 h1 h2 h3 h4 (by omega) (by omega) (by omega) (by omega) (by omega)
  have fJ : ∀ c, c ≠ 0 → c < 9 ∨ 13 < c → crJ J k c = J c := fun c h0 h1 => crJ_o k h0 (by omega) (by omega) (by omega) (by omega)
  have kK : mK (M cms) (crI I k) (crJ J k) := (hk.1.fr (fI 2 (by decide) (by decide) (by decide) (by decide) (by decide) (by decide))).frR (fun c c0 c6 => fJ c c0 (by omega))
  refine ⟨v, _, _, q1, q2, RelS.mk hg hN ⟨F, cms, M, s, k, ⟨⟨perRel.none p8 j9, perRel.none p13 j91, perRel.none p18 j92⟩, hb.2.1.cg (by rw [crI_0]; rfl) (by rw [crI_0]; rfl) (by rw [crJ_0]; rfl) (by rw [crJ_0]; rfl), hb.2.2.1.cg (by rw [crI_0]; rfl) (by rw [crJ_0]; rfl) (fI 26 (by decide) (by decide) (by decide) (by decide) (by decide) (by decide)) (fJ 17 (by decide) (by decide)), by rw [crI_0, crJ_0]; rfl⟩, ⟨l1, ⟨by omega, crI_23 k, by rw [crJ_0]; rfl, fun i hi => by rw [fI 24 (by decide) (by decide) (by decide) (by decide) (by decide) (by decide), fJ 16 (by decide) (by decide)]; exact l2d i (by omega)⟩, by omega, l4, Or.inr ⟨by rw [crI_0, if_pos rfl]; decide, c60, c83, c96, c107, c1071, c116⟩, by rw [crI_0]; exact l6, by rw [crJ_0]; exact l7, fun r hr => by rw [fI 25 (by decide) (by decide) (by decide) (by decide) (by decide) (by decide), fJ 15 (by decide) (by decide)]; exact l8 r hr, l9⟩, ⟨kK, hk.2.1.congr (fun c c1 c2 => fI c (by omega) (by omega) (by omega) (by omega) (by omega) (by omega)) (fun _ _ => rfl), hk.2.2.1, rulK.mk' (hk.2.2.2.sea.forget c60 (by rw [crJ_0]; rfl) c606 (fun c c1 c2 => fI c (by omega) (by omega) (by omega) (by omega) (by omega) (by omega)) (fun _ _ _ => rfl)) ((rulK_prG hk.2.2.2).congr (fun c c1 c2 => fI c (by omega) (by omega) (by omega) (by omega) (by omega) (by omega)) (fun q hq => by rw [crJ_0]; rcases hq with rfl | rfl | rfl <;> rfl) (fun c c1 c2 => fJ c (by omega) (by omega)) (fun _ _ => rfl)) c116⟩, resR.zero c83 c96 c107 c1071 (by rw [crJ_0]; rfl) (by rw [crJ_0]; rfl) (by rw [crJ_0]; rfl) (by rw [crJ_0]; rfl)⟩⟩
/-- a text that was read once is read again -/
theorem txO.ref (h : txO m) (hJ : ∀ q, q < 1189 → J 6 q = m q) (hr : rCst J) (he : 150 ≤ e) : ∃ J1 L1', jv e 261 0 [some (.ref 0), some (.ref 6)] [] (shR, J, L', pR) = some (some (.int 1), (shR, J1, L1', pR)) := by
  obtain ⟨g, I, hg, hk⟩ := h
  rcases hg with rfl | rfl
  · obtain ⟨J1, L1', h1, -⟩ := hk.ref38 (L' := L') hJ hr he
    exact ⟨J1, L1', h1⟩
  · obtain ⟨J1, L1', h1, -⟩ := hk.ref49 (L' := L') hJ hr he
    exact ⟨J1, L1', h1⟩
theorem txO.n (h : txO m) : ∃ n, n ≤ 1200 ∧ m 888 = nI n := by
  obtain ⟨g, I, hg, n, I0, L0, pa, pb, pu, pw, I1, L1, d, M, h1, h2, -⟩ := h
  exact ⟨n, h1, h2⟩
theorem reo_a38 (hN : N ≤ B) (hR : Rel 38 N I J L L') (h11 : ¬ I 0 11 = 0) : alk B (jv 1900 182 0 [some (.ref 0), none, none, none] [] (shC, I, L, pX (some 38) (some 49) pu pw)) (jv 1900 239 0 [some (.ref 0), none, none, none] [] (shR, J, L', pR)) := by
  have hg : gg 38 49 := Or.inl ⟨rfl, rfl⟩
  obtain ⟨F, cms, M, s, z, hb, hl, hk, hr⟩ := id hR
  obtain ⟨l1, ⟨l2a, l2b, l2c, l2d⟩, l3, l4, l5, l6, l7, l8, l9⟩ := id hl
  obtain ⟨-, w60, w83, w96, w107, w1071, w116⟩ := l5.resolve_left (fun q => h11 q.1)
  have j59 : J 0 59 = 0 := by
    obtain ⟨-, -, -, -, q⟩ := hk.2.2.2.sea
    rcases q with ⟨-, q⟩ | ⟨q, -⟩
    · exact q
    · exact absurd (w60.symm.trans q) (by decide)
  obtain ⟨j0, Ia, Ja, y2, p3, m2, m3, r0, r1, r2, r3, r4, r5, r6, r7, f1, f2, f3, f4, x1, x2⟩ := reopen_38 (d := 1895) (e := 1898) (L := L) (L' := L') (pb := some 49) (pu := pu) (pw := pw) l1 l3 ⟨l2a, l2b, l2c, l2d⟩ hk.1.2.2.2.1 h11 (by rw [← hb.2.2.2]; exact h11)
  obtain ⟨rt, tx⟩ := l9 j0 r0
  obtain ⟨n, hn, h888⟩ := tx.n
  generalize hIb : j_up Ia 23 1 (nI (s j0)) = Ib at x1
  generalize hJb : j_up Ja 0 17 (nI (s j0)) = Jb at x2
  have bI : ∀ c, c ≠ 23 → Ib c = Ia c := fun c hc => by rw [← hIb, j_up_cell _ hc]
  have bJ : ∀ c, c ≠ 0 → Jb c = Ja c := fun c hc => by rw [← hJb, j_up_cell _ hc]
  have bJ0 : ∀ q, q ≠ 17 → Jb 0 q = Ja 0 q := fun q hq => by rw [← hJb, j_up_own2 _ _ _ hq]
  have bI1 : Ib 23 1 = nI (s j0) := by rw [← hIb, j_up_eq]
  have bJ1 : Jb 0 17 = nI (s j0) := by rw [← hJb, j_up_eq]
  have hI2 : ∀ q, q < 1189 → Ib 2 q = M j0 q := fun q hq => by rw [bI 2 (by decide)]; exact r2 q hq
  have hJ6 : ∀ q, q < 1189 → Jb 6 q = M j0 q := fun q hq => by rw [bJ 6 (by decide)]; exact r3 q hq
  have hrc : rCst Jb := rCst_eq1 hk.1.2.2.2.1 (fun c c0 c6 => by rw [bJ c c0]; exact f3 c c0 (by omega) (by omega))
  obtain ⟨v, S1, w, T1, k1, k2, I1, L1, J1, L1', x, rfl, rfl, rfl, rfl, ⟨g1, g2, g3, g4, g5⟩, hx⟩ := parse_sim38_1 (d := 1899) (e := 1899) (L := L) (L' := L') (pa := some 38) (pb := some 49) (pu := pu) (pw := pw) (by decide) (by decide) hn h888 hI2 hJ6 hrc hk.2.2.1
  have xe : x = 1 := by
    obtain ⟨J9, L9, k3⟩ := tx.ref (e := 1899) (L' := L') hJ6 hrc (by decide)
    rw [k2] at k3
    cases k3
    rfl
  subst xe
  obtain ⟨-, hP, -, -⟩ := hx.resolve_right (fun q => absurd q.1 (by decide))
  have I18 : I1 0 8 = nI j0 := by rw [g1 0 (by decide) (by decide), bI 0 (by decide)]; exact r5
  have J15 : J1 0 15 = nI j0 := by rw [g4 15 (by decide), bJ0 15 (by decide)]; exact r6
  have eI : ∀ c, c ≠ 0 → c ≠ 2 → c ≠ 25 → c ≠ 23 → c < 27 ∨ 60 ≤ c → j_up I1 0 11 0 c = I c := fun c c0 c2 c25 c23 hc => by rw [j_up_cell _ c0, g1 c (by omega) (by omega), bI c c23, f1 c c0 c2 c25]
  have e0 : ∀ f, f ≠ 8 → f ≠ 11 → j_up I1 0 11 0 0 f = I 0 f := fun f h8 h11 => by rw [j_up_own2 _ _ _ h11, g1 0 (by decide) (by decide), bI 0 (by decide), f2 f h8]
  have eJ : ∀ c, c ≠ 0 → c ≠ 6 → c ≠ 15 → c < 18 ∨ 36 < c → J1 c = J c := fun c c0 c6 c15 hc => by rw [g3 c c0 hc, bJ c c0, f3 c c0 c6 c15]
  have jj : ∀ q, q ≠ 15 → q ≠ 17 → q ≠ 18 → q < 27 ∨ 52 < q → J1 0 q = J 0 q := fun q h15 h17 h18 hc => by rw [g4 q hc, bJ0 q h17, f4 q h15 h18]
  refine ⟨.int (nI j0), (shC, j_up I1 0 11 0, L1, pX (some 38) (some 49) (some 38) pw), (shR, J1, L1', pR), ?_, ?_, RelS.mk hg hN ⟨F, j0, M, s, s j0, ⟨hb.1.cg (fun c c1 c2 => eI c (by omega) (by omega) (by omega) (by omega) (by omega)) (fun c c1 c2 => eJ c (by omega) (by omega) (by omega) (by omega)), hb.2.1.cg (e0 9 (by decide) (by decide)) (e0 10 (by decide) (by decide)) (jj 21 (by decide) (by decide) (by decide) (by decide)) (jj 22 (by decide) (by decide) (by decide) (by decide)), hb.2.2.1.cg (e0 7 (by decide) (by decide)) (jj 20 (by decide) (by decide) (by decide) (by decide)) (eI 26 (by decide) (by decide) (by decide) (by decide) (by decide)) (eJ 17 (by decide) (by decide) (by decide) (by decide)), ?_⟩, ⟨⟨l1.1, fun k hk => l1.2.1 k (by omega), fun k hk => l1.2.2.1 k (by omega), l1.2.2.2⟩, ⟨by omega, ?_, ?_, fun i hi => ?_⟩, Nat.le_refl _, by omega, Or.inl ⟨j_up_eq _ _ _ _, rfl⟩, ?_, J15, fun r hr => ?_, fun k hk => l9 k (by omega)⟩, ⟨⟨fun q hq => ?_, fun q hq => ?_, l1.2.2.1 j0 r0, rCst_eq1 hk.1.2.2.2.1 (fun c c0 c6 => eJ c c0 (by omega) (by omega) (by omega)), rt.1⟩, ⟨n, Ib, L, some 38, some 49, pu, pw, I1, L1, 1899, 1, hn, h888, hk.2.2.1, by decide, Or.inl ⟨rfl, hI2⟩, k1, fun c c1 c2 => j_up_cell _ (by omega) _ _⟩, hk.2.2.1.cg (fun c c1 c2 => g2 c (by omega)), rulK.mk' (hk.2.2.2.sea.forget ?_ ?_ ?_ (fun c c1 c2 => eI c (by omega) (by omega) (by omega) (by omega) (by omega)) (fun c c1 c2 => g5 c (by omega))) (hP.congr (fun c c1 c2 => j_up_cell _ (by omega) _ _) (fun _ _ => rfl) (fun _ _ _ => rfl) (fun _ _ => rfl)) ?_⟩, ?_⟩⟩
  · rw [x1, jgo_some (d := 1899) rfl k1]
    dsimp only [Option.toList_some, Option.toList_none, List.cons_append, List.nil_append]
    rw [B182_114_g38, if_pos (by decide), j_up_own2 _ _ _ (by decide), I18]
  · rw [x2, jgo_some (d := 1899) rfl k2]
    dsimp only [Option.toList_some, Option.toList_none, List.cons_append, List.nil_append]
    rw [B239_145, J15]
  · rw [j_up_eq, g4 18 (by decide), bJ0 18 (by decide), r7]
  · rw [j_up_cell _ (by decide), g1 23 (by decide) (by decide)]; exact bI1
  · rw [g4 17 (by decide)]; exact bJ1
  · rw [eI 24 (by decide) (by decide) (by decide) (by decide) (by decide), eJ 16 (by decide) (by decide) (by decide) (by decide)]; exact l2d i (by omega)
  · rw [j_up_own2 _ _ _ (by decide)]; exact I18
  · rw [j_up_cell _ (by decide), g1 25 (by decide) (by decide), bI 25 (by decide), g3 15 (by decide) (by decide), bJ 15 (by decide)]; exact r4 r hr
  · rw [j_up_cell _ (by decide), g1 2 (by decide) (by decide)]; exact hI2 q hq
  · rw [g3 6 (by decide) (by decide)]; exact hJ6 q hq
  · rw [eI 60 (by decide) (by decide) (by decide) (by decide) (by decide)]; exact w60
  · rw [jj 59 (by decide) (by decide) (by decide) (by decide)]; exact j59
  · rw [eI 60 (by decide) (by decide) (by decide) (by decide) (by decide)]
  · rw [eI 116 (by decide) (by decide) (by decide) (by decide) (by decide)]; exact w116
  · have k := hr.1
    exact resR.zero (by rw [eI 83 (by decide) (by decide) (by decide) (by decide) (by decide)]; exact w83) (by rw [eI 96 (by decide) (by decide) (by decide) (by decide) (by decide)]; exact w96) (by rw [eI 107 (by decide) (by decide) (by decide) (by decide) (by decide)]; exact w107) (by rw [eI 107 (by decide) (by decide) (by decide) (by decide) (by decide)]; exact w1071) (by rw [jj 87 (by decide) (by decide) (by decide) (by decide), ← k.1.1]; exact w83) (by rw [jj 103 (by decide) (by decide) (by decide) (by decide), ← k.2.1.1]; exact w107) (by rw [jj 107 (by decide) (by decide) (by decide) (by decide), ← k.2.2.1.1]; exact w96) (by rw [jj 120 (by decide) (by decide) (by decide) (by decide), ← k.2.2.2.1]; exact w1071)
theorem reo_a49 (hN : N ≤ B) (hR : Rel 49 N I J L L') (h11 : ¬ I 0 11 = 0) : alk B (jv 1900 182 0 [some (.ref 0), none, none, none] [] (shC, I, L, pX (some 49) (some 38) pu pw)) (jv 1900 239 0 [some (.ref 0), none, none, none] [] (shR, J, L', pR)) := by
  have hg : gg 49 38 := Or.inr ⟨rfl, rfl⟩
  obtain ⟨F, cms, M, s, z, hb, hl, hk, hr⟩ := id hR
  obtain ⟨l1, ⟨l2a, l2b, l2c, l2d⟩, l3, l4, l5, l6, l7, l8, l9⟩ := id hl
  obtain ⟨-, w60, w83, w96, w107, w1071, w116⟩ := l5.resolve_left (fun q => h11 q.1)
  have j59 : J 0 59 = 0 := by
    obtain ⟨-, -, -, -, q⟩ := hk.2.2.2.sea
    rcases q with ⟨-, q⟩ | ⟨q, -⟩
    · exact q
    · exact absurd (w60.symm.trans q) (by decide)
  obtain ⟨j0, Ia, Ja, y2, p3, m2, m3, r0, r1, r2, r3, r4, r5, r6, r7, f1, f2, f3, f4, x1, x2⟩ := reopen_49 (d := 1895) (e := 1898) (L := L) (L' := L') (pb := some 38) (pu := pu) (pw := pw) l1 l3 ⟨l2a, l2b, l2c, l2d⟩ hk.1.2.2.2.1 h11 (by rw [← hb.2.2.2]; exact h11)
  obtain ⟨rt, tx⟩ := l9 j0 r0
  obtain ⟨n, hn, h888⟩ := tx.n
  generalize hIb : j_up Ia 23 1 (nI (s j0)) = Ib at x1
  generalize hJb : j_up Ja 0 17 (nI (s j0)) = Jb at x2
  have bI : ∀ c, c ≠ 23 → Ib c = Ia c := fun c hc => by rw [← hIb, j_up_cell _ hc]
  have bJ : ∀ c, c ≠ 0 → Jb c = Ja c := fun c hc => by rw [← hJb, j_up_cell _ hc]
  have bJ0 : ∀ q, q ≠ 17 → Jb 0 q = Ja 0 q := fun q hq => by rw [← hJb, j_up_own2 _ _ _ hq]
  have bI1 : Ib 23 1 = nI (s j0) := by rw [← hIb, j_up_eq]
  have bJ1 : Jb 0 17 = nI (s j0) := by rw [← hJb, j_up_eq]
  have hI2 : ∀ q, q < 1189 → Ib 2 q = M j0 q := fun q hq => by rw [bI 2 (by decide)]; exact r2 q hq
  have hJ6 : ∀ q, q < 1189 → Jb 6 q = M j0 q := fun q hq => by rw [bJ 6 (by decide)]; exact r3 q hq
  have hrc : rCst Jb := rCst_eq1 hk.1.2.2.2.1 (fun c c0 c6 => by rw [bJ c c0]; exact f3 c c0 (by omega) (by omega))
  obtain ⟨v, S1, w, T1, k1, k2, I1, L1, J1, L1', x, rfl, rfl, rfl, rfl, ⟨g1, g2, g3, g4, g5⟩, hx⟩ := parse_sim49_1 (d := 1899) (e := 1899) (L := L) (L' := L') (pa := some 49) (pb := some 38) (pu := pu) (pw := pw) (by decide) (by decide) hn h888 hI2 hJ6 hrc hk.2.2.1
  have xe : x = 1 := by
    obtain ⟨J9, L9, k3⟩ := tx.ref (e := 1899) (L' := L') hJ6 hrc (by decide)
    rw [k2] at k3
    cases k3
    rfl
  subst xe
  obtain ⟨-, hP, -, -⟩ := hx.resolve_right (fun q => absurd q.1 (by decide))
  have I18 : I1 0 8 = nI j0 := by rw [g1 0 (by decide) (by decide), bI 0 (by decide)]; exact r5
  have J15 : J1 0 15 = nI j0 := by rw [g4 15 (by decide), bJ0 15 (by decide)]; exact r6
  have eI : ∀ c, c ≠ 0 → c ≠ 2 → c ≠ 25 → c ≠ 23 → c < 27 ∨ 60 ≤ c → j_up I1 0 11 0 c = I c := fun c c0 c2 c25 c23 hc => by rw [j_up_cell _ c0, g1 c (by omega) (by omega), bI c c23, f1 c c0 c2 c25]
  have e0 : ∀ f, f ≠ 8 → f ≠ 11 → j_up I1 0 11 0 0 f = I 0 f := fun f h8 h11 => by rw [j_up_own2 _ _ _ h11, g1 0 (by decide) (by decide), bI 0 (by decide), f2 f h8]
  have eJ : ∀ c, c ≠ 0 → c ≠ 6 → c ≠ 15 → c < 18 ∨ 36 < c → J1 c = J c := fun c c0 c6 c15 hc => by rw [g3 c c0 hc, bJ c c0, f3 c c0 c6 c15]
  have jj : ∀ q, q ≠ 15 → q ≠ 17 → q ≠ 18 → q < 27 ∨ 52 < q → J1 0 q = J 0 q := fun q h15 h17 h18 hc => by rw [g4 q hc, bJ0 q h17, f4 q h15 h18]
  refine ⟨.int (nI j0), (shC, j_up I1 0 11 0, L1, pX (some 49) (some 38) (some 49) pw), (shR, J1, L1', pR), ?_, ?_, RelS.mk hg hN ⟨F, j0, M, s, s j0, ⟨hb.1.cg (fun c c1 c2 => eI c (by omega) (by omega) (by omega) (by omega) (by omega)) (fun c c1 c2 => eJ c (by omega) (by omega) (by omega) (by omega)), hb.2.1.cg (e0 9 (by decide) (by decide)) (e0 10 (by decide) (by decide)) (jj 21 (by decide) (by decide) (by decide) (by decide)) (jj 22 (by decide) (by decide) (by decide) (by decide)), hb.2.2.1.cg (e0 7 (by decide) (by decide)) (jj 20 (by decide) (by decide) (by decide) (by decide)) (eI 26 (by decide) (by decide) (by decide) (by decide) (by decide)) (eJ 17 (by decide) (by decide) (by decide) (by decide)), ?_⟩, ⟨⟨l1.1, fun k hk => l1.2.1 k (by omega), fun k hk => l1.2.2.1 k (by omega), l1.2.2.2⟩, ⟨by omega, ?_, ?_, fun i hi => ?_⟩, Nat.le_refl _, by omega, Or.inl ⟨j_up_eq _ _ _ _, rfl⟩, ?_, J15, fun r hr => ?_, fun k hk => l9 k (by omega)⟩, ⟨⟨fun q hq => ?_, fun q hq => ?_, l1.2.2.1 j0 r0, rCst_eq1 hk.1.2.2.2.1 (fun c c0 c6 => eJ c c0 (by omega) (by omega) (by omega)), rt.1⟩, ⟨n, Ib, L, some 49, some 38, pu, pw, I1, L1, 1899, 1, hn, h888, hk.2.2.1, by decide, Or.inl ⟨rfl, hI2⟩, k1, fun c c1 c2 => j_up_cell _ (by omega) _ _⟩, hk.2.2.1.cg (fun c c1 c2 => g2 c (by omega)), rulK.mk' (hk.2.2.2.sea.forget ?_ ?_ ?_ (fun c c1 c2 => eI c (by omega) (by omega) (by omega) (by omega) (by omega)) (fun c c1 c2 => g5 c (by omega))) (hP.congr (fun c c1 c2 => j_up_cell _ (by omega) _ _) (fun _ _ => rfl) (fun _ _ _ => rfl) (fun _ _ => rfl)) ?_⟩, ?_⟩⟩
  · rw [x1, jgo_some (d := 1899) rfl k1]
    dsimp only [Option.toList_some, Option.toList_none, List.cons_append, List.nil_append]
    rw [B182_114_g49, if_pos (by decide), j_up_own2 _ _ _ (by decide), I18]
  · rw [x2, jgo_some (d := 1899) rfl k2]
    dsimp only [Option.toList_some, Option.toList_none, List.cons_append, List.nil_append]
    rw [B239_145, J15]
  · rw [j_up_eq, g4 18 (by decide), bJ0 18 (by decide), r7]
  · rw [j_up_cell _ (by decide), g1 23 (by decide) (by decide)]; exact bI1
  · rw [g4 17 (by decide)]; exact bJ1
  · rw [eI 24 (by decide) (by decide) (by decide) (by decide) (by decide), eJ 16 (by decide) (by decide) (by decide) (by decide)]; exact l2d i (by omega)
  · rw [j_up_own2 _ _ _ (by decide)]; exact I18
  · rw [j_up_cell _ (by decide), g1 25 (by decide) (by decide), bI 25 (by decide), g3 15 (by decide) (by decide), bJ 15 (by decide)]; exact r4 r hr
  · rw [j_up_cell _ (by decide), g1 2 (by decide) (by decide)]; exact hI2 q hq
  · rw [g3 6 (by decide) (by decide)]; exact hJ6 q hq
  · rw [eI 60 (by decide) (by decide) (by decide) (by decide) (by decide)]; exact w60
  · rw [jj 59 (by decide) (by decide) (by decide) (by decide)]; exact j59
  · rw [eI 60 (by decide) (by decide) (by decide) (by decide) (by decide)]
  · rw [eI 116 (by decide) (by decide) (by decide) (by decide) (by decide)]; exact w116
  · have k := hr.1
    exact resR.zero (by rw [eI 83 (by decide) (by decide) (by decide) (by decide) (by decide)]; exact w83) (by rw [eI 96 (by decide) (by decide) (by decide) (by decide) (by decide)]; exact w96) (by rw [eI 107 (by decide) (by decide) (by decide) (by decide) (by decide)]; exact w107) (by rw [eI 107 (by decide) (by decide) (by decide) (by decide) (by decide)]; exact w1071) (by rw [jj 87 (by decide) (by decide) (by decide) (by decide), ← k.1.1]; exact w83) (by rw [jj 103 (by decide) (by decide) (by decide) (by decide), ← k.2.1.1]; exact w107) (by rw [jj 107 (by decide) (by decide) (by decide) (by decide), ← k.2.2.1.1]; exact w96) (by rw [jj 120 (by decide) (by decide) (by decide) (by decide), ← k.2.2.2.1]; exact w1071)
/-- reopen -/
theorem a_reopen (h : RelS B S T) : alk B (jv 1900 182 0 [some (.ref 0), none, none, none] [] S) (jv 1900 239 0 [some (.ref 0), none, none, none] [] T) := by
  obtain ⟨g, g', N, I, J, L, L', pu, pw, hg, hN, rfl, rfl, hR⟩ := h
  have hS : RelS B (shC, I, L, pX (some g) (some g') pu pw) (shR, J, L', pR) := RelS.mk hg hN hR
  obtain ⟨F, cms, M, s, z, hb, hl, hk, hr⟩ := id hR
  rcases hg with ⟨rfl, rfl⟩ | ⟨rfl, rfl⟩
  · by_cases q : I 0 11 = 0
    · exact alk.ask hS ⟨_, by rw [B182_0_g38, if_pos q], by rw [B239_0, ← hb.2.2.2, if_pos q]⟩
    · exact reo_a38 hN hR q
  · by_cases q : I 0 11 = 0
    · exact alk.ask hS ⟨_, by rw [B182_0_g49, if_pos q], by rw [B239_0, ← hb.2.2.2, if_pos q]⟩
    · exact reo_a49 hN hR q
end SECM
