/-! ARMS: the sea, the rules, what is asked, crash -/
section SECI
variable {I J I2 J2 : Nat → Nat → Int32} {L L' L2 L2' : Nat → Nat → Int64} {S T : jS} {B g N N0 cms z : Nat} {m : Nat → Int32} {F : Nat → Int32} {M : Nat → Nat → Int32} {s : Nat → Nat}
theorem rulK_prG (h : rulK g m N I J L L') : prG g I J L' := by
  obtain ⟨k, o, r, ans, b, c, nl, nt, nu, np, nc, nr, wl, hD, h1, h2, hP, hL⟩ := h
  exact ⟨nl, nt, nu, np, nc, nr, wl, hP⟩
theorem mK.rods (h : mK m I J) {k : Nat} (hk : k < 9) : mNa m (879 + k) ≤ 4000 ∧ I 2 (879 + k) = nI (mNa m (879 + k)) ∧ J 6 (879 + k) = nI (mNa m (879 + k)) := by
  obtain ⟨x, x1, x2⟩ := h.rod hk
  have e : mNa m (879 + k) = x := mN_n x2 (by omega)
  rw [e]
  exact ⟨x1, (h.1 _ (by omega)).trans x2, (h.2.1 _ (by omega)).trans x2⟩
theorem a_sea (h : RelS B S T) (hB : B + 17 < 2000000000) (x : Int32) : alk (B + 17) (jv 1900 193 0 [some (.ref 0), some (.int x)] [] S) (jv 1900 319 0 [some (.ref 0), some (.int x), none] [] T) := by
  obtain ⟨g, g', N, I, J, L, L', pu, pw, hg, hN, rfl, rfl, hR⟩ := h
  have hS : RelS B (shC, I, L, pX (some g) (some g') pu pw) (shR, J, L', pR) := RelS.mk hg hN hR
  obtain ⟨F, cms, M, s, z, hb, hl, hk, hr⟩ := id hR
  rcases sea_call (d := 1893) (e := 1888) (L := L) (L' := L') (pa := some g) (pb := some g') (pu := pu) (pw := pw) hk.1.q (hl.2.2.2.2.2.2.2.2 cms (Nat.le_refl _)).1 hk.2.2.2.sea (by omega) hb.2.2.2 x with ⟨v, q1, q2⟩ | ⟨v, N', I2, J2, L2, L2', hN', hT, ⟨c1, c2, c3, c4⟩, ⟨f1, f2, f3, f4⟩, q1, q2⟩
  · exact (alk.ask hS ⟨_, q1, q2⟩).mono (by omega)
  have gb := hg.b
  have hdw : I 0 11 = 0 ∨ I2 = I := hdw_of (L := L) (P := pX (some g) (some g') pu pw) (fun z => by
    obtain ⟨kv, -, kc⟩ := kinds_c (d := 1897) (L := L) (pa := some g) (pb := some g') (pu := pu) (pw := pw) hk.1.q
    rw [B193_0, B193_29, if_pos (show j_in 2 13 = true by decide), jgo_some (d := 1899) rfl kc]
    dsimp only [Option.toList_some, Option.toList_none, List.cons_append, List.nil_append]
    rw [B193_23, B193_29, if_neg z]
    split
    · exact ⟨_, rfl⟩
    · split
      · split <;> exact ⟨_, rfl⟩
      · exact ⟨_, rfl⟩) q1
  exact ⟨_, _, _, q1, q2, RelS.mk hg (by omega) (Rel.mk2 hg hb hl hk (fun c hc => c1 c (by omega) (by omega)) (fun c c0 cc => f1 c c0 (by omega)) (fun q hq => f2 q (by omega) (by omega) (by omega)) (fun c cc1 cc2 => c4 c (by omega)) hdw (rulK.mk' hT (((rulK_prG hk.2.2.2)).congr (fun c cc1 cc2 => c1 c (by omega) (by omega)) (fun q hq => f2 q (by omega) (by omega) (by omega)) (fun c cc1 cc2 => f1 c (by omega) (by omega)) (fun c hc => f3 c (by omega) (by omega))) c3) (hr.cg (fun c cc1 _ _ cc2 _ => c1 c (by omega) cc2) (fun f _ => by rw [c1 83 (by decide) (by decide)]) (fun c hc _ _ => f1 c (by omega) (by omega)) (fun q hq => f2 q (by omega) (by omega) (by omega))))⟩
theorem a_arm (h : RelS B S T) (x : Int32) : alk B (jv 1900 197 0 [some (.ref 0), some (.int x)] [] S) (jv 1900 327 0 [some (.ref 0), some (.int x), none] [] T) := by
  obtain ⟨g, g', N, I, J, L, L', pu, pw, hg, hN, rfl, rfl, hR⟩ := h
  have hS : RelS B (shC, I, L, pX (some g) (some g') pu pw) (shR, J, L', pR) := RelS.mk hg hN hR
  obtain ⟨F, cms, M, s, z, hb, hl, hk, hr⟩ := id hR
  rcases arm_rul (d := 1896) (e := 1891) (L := L) (L' := L') (pa := some g) (pb := some g') (pu := pu) (pw := pw) hg.b.2 hk.1 hk.2.2.2 hb.2.2.2 x with ⟨v, q1, q2⟩ | ⟨v, I2, J2, L2, L2', hT, ⟨c1, c2, c3, c4⟩, ⟨f1, f2, f3, f4⟩, q1, q2⟩
  · exact alk.ask hS ⟨_, q1, q2⟩
  have hdw : I 0 11 = 0 ∨ I2 = I := hdw_of (L := L) (P := pX (some g) (some g') pu pw) (fun z => ⟨_, by rw [B197_0, if_neg z, B197_31]⟩) q1
  exact ⟨_, _, _, q1, q2, RelS.mk hg hN (Rel.mk2 hg hb hl hk (fun c hc => c1 c (by omega) (by omega) (by omega)) (fun c c0 cc => f1 c c0) (fun q hq => f2 q (by omega)) (fun c cc1 cc2 => c3 c (by omega) (by omega) (by omega) (by omega)) hdw hT (hr.cg (fun c cc1 _ _ _ _ => c1 c (by omega) (by omega) (by omega)) (fun f _ => by rw [c1 83 (by decide) (by decide) (by decide)]) (fun c hc _ _ => f1 c (by omega)) (fun q hq => f2 q (by omega))))⟩
theorem a_verdict (h : RelS B S T) (x : Int32) : alk B (jv 1900 200 0 [some (.ref 0), some (.int x)] [] S) (jv 1900 296 0 [some (.ref 0), some (.int x)] [] T) := by
  obtain ⟨g, g', N, I, J, L, L', pu, pw, hg, hN, rfl, rfl, hR⟩ := h
  have hS : RelS B (shC, I, L, pX (some g) (some g') pu pw) (shR, J, L', pR) := RelS.mk hg hN hR
  obtain ⟨F, cms, M, s, z, hb, hl, hk, hr⟩ := id hR
  rcases hg with ⟨rfl, rfl⟩ | ⟨rfl, rfl⟩
  · have hg : gg 38 49 := Or.inl ⟨rfl, rfl⟩
    rcases verdict_38 (d := 1898) (e := 1898) (L := L) (L' := L') (pb := some 49) (pu := pu) (pw := pw) (by decide) (by decide) hk.1 hr.1 hk.2.2.2 hb.2.2.2 x with ⟨v, q1, q2⟩ | ⟨v, I2, J2, L2, L2', hK, kn, hT, ⟨c1, c2, c3⟩, ⟨f1, f2, f3, f4⟩, q1, q2⟩
    · exact alk.ask hS ⟨_, q1, q2⟩
    · have hdw : I 0 11 = 0 ∨ I2 = I := hdw_of (L := L) (P := pX (some 38) (some 49) pu pw) (fun z => by
        rw [B200_0_g38, B200_15_g38, if_neg z]; split; exact ⟨_, rfl⟩; split <;> exact ⟨_, rfl⟩) q1
      exact ⟨_, _, _, q1, q2, RelS.mk hg hN (Rel.mk2 hg hb hl hk (fun c hc => c1 c (by omega) (by omega) (by omega)) (fun c c0 cc => f1 c c0) (fun q hq => f2 q (by omega) (by omega) (by omega) (by omega)) (fun c cc1 cc2 => c3 c (by omega) (by omega) (by omega) (by omega) (by omega)) hdw hT (hr.cg (fun c cc1 _ _ cc2 cc3 => c1 c (by omega) cc2 cc3) (fun f _ => by rw [c1 83 (by decide) (by decide) (by decide)]) (fun c hc _ _ => f1 c (by omega)) (fun q hq => f2 q (by omega) (by omega) (by omega) (by omega))))⟩
  · have hg : gg 49 38 := Or.inr ⟨rfl, rfl⟩
    rcases verdict_49 (d := 1898) (e := 1898) (L := L) (L' := L') (pb := some 38) (pu := pu) (pw := pw) (by decide) (by decide) hk.1 hr.1 hk.2.2.2 hb.2.2.2 x with ⟨v, q1, q2⟩ | ⟨v, I2, J2, L2, L2', hK, kn, hT, ⟨c1, c2, c3⟩, ⟨f1, f2, f3, f4⟩, q1, q2⟩
    · exact alk.ask hS ⟨_, q1, q2⟩
    · have hdw : I 0 11 = 0 ∨ I2 = I := hdw_of (L := L) (P := pX (some 49) (some 38) pu pw) (fun z => by
        rw [B200_0_g49, B200_15_g49, if_neg z]; split; exact ⟨_, rfl⟩; split <;> exact ⟨_, rfl⟩) q1
      exact ⟨_, _, _, q1, q2, RelS.mk hg hN (Rel.mk2 hg hb hl hk (fun c hc => c1 c (by omega) (by omega) (by omega)) (fun c c0 cc => f1 c c0) (fun q hq => f2 q (by omega) (by omega) (by omega) (by omega)) (fun c cc1 cc2 => c3 c (by omega) (by omega) (by omega) (by omega) (by omega)) hdw hT (hr.cg (fun c cc1 _ _ cc2 cc3 => c1 c (by omega) cc2 cc3) (fun f _ => by rw [c1 83 (by decide) (by decide) (by decide)]) (fun c hc _ _ => f1 c (by omega)) (fun q hq => f2 q (by omega) (by omega) (by omega) (by omega))))⟩
theorem a_steps (h : RelS B S T) (x : Int32) : alk B (jv 1900 201 0 [some (.ref 0), some (.int x)] [] S) (jv 1900 297 0 [some (.ref 0), some (.int x)] [] T) := by
  obtain ⟨g, g', N, I, J, L, L', pu, pw, hg, hN, rfl, rfl, hR⟩ := h
  have hS : RelS B (shC, I, L, pX (some g) (some g') pu pw) (shR, J, L', pR) := RelS.mk hg hN hR
  obtain ⟨F, cms, M, s, z, hb, hl, hk, hr⟩ := id hR
  rcases hg with ⟨rfl, rfl⟩ | ⟨rfl, rfl⟩
  · have hg : gg 38 49 := Or.inl ⟨rfl, rfl⟩
    rcases steps_38 (d := 1898) (e := 1898) (L := L) (L' := L') (pb := some 49) (pu := pu) (pw := pw) (by decide) (by decide) hk.1 hr.1 hk.2.2.2 hb.2.2.2 x with ⟨v, q1, q2⟩ | ⟨v, I2, J2, L2, L2', hK, kn, hT, ⟨c1, c2, c3⟩, ⟨f1, f2, f3, f4⟩, q1, q2⟩
    · exact alk.ask hS ⟨_, q1, q2⟩
    · have hdw : I 0 11 = 0 ∨ I2 = I := hdw_of (L := L) (P := pX (some 38) (some 49) pu pw) (fun z => by
        rw [B201_0_g38, B201_15_g38, if_neg z]; split; exact ⟨_, rfl⟩; split <;> exact ⟨_, rfl⟩) q1
      exact ⟨_, _, _, q1, q2, RelS.mk hg hN (Rel.mk2 hg hb hl hk (fun c hc => c1 c (by omega) (by omega) (by omega)) (fun c c0 cc => f1 c c0) (fun q hq => f2 q (by omega) (by omega) (by omega) (by omega)) (fun c cc1 cc2 => c3 c (by omega) (by omega) (by omega) (by omega) (by omega)) hdw hT (hr.cg (fun c cc1 _ _ cc2 cc3 => c1 c (by omega) cc2 cc3) (fun f _ => by rw [c1 83 (by decide) (by decide) (by decide)]) (fun c hc _ _ => f1 c (by omega)) (fun q hq => f2 q (by omega) (by omega) (by omega) (by omega))))⟩
  · have hg : gg 49 38 := Or.inr ⟨rfl, rfl⟩
    rcases steps_49 (d := 1898) (e := 1898) (L := L) (L' := L') (pb := some 38) (pu := pu) (pw := pw) (by decide) (by decide) hk.1 hr.1 hk.2.2.2 hb.2.2.2 x with ⟨v, q1, q2⟩ | ⟨v, I2, J2, L2, L2', hK, kn, hT, ⟨c1, c2, c3⟩, ⟨f1, f2, f3, f4⟩, q1, q2⟩
    · exact alk.ask hS ⟨_, q1, q2⟩
    · have hdw : I 0 11 = 0 ∨ I2 = I := hdw_of (L := L) (P := pX (some 49) (some 38) pu pw) (fun z => by
        rw [B201_0_g49, B201_15_g49, if_neg z]; split; exact ⟨_, rfl⟩; split <;> exact ⟨_, rfl⟩) q1
      exact ⟨_, _, _, q1, q2, RelS.mk hg hN (Rel.mk2 hg hb hl hk (fun c hc => c1 c (by omega) (by omega) (by omega)) (fun c c0 cc => f1 c c0) (fun q hq => f2 q (by omega) (by omega) (by omega) (by omega)) (fun c cc1 cc2 => c3 c (by omega) (by omega) (by omega) (by omega) (by omega)) hdw hT (hr.cg (fun c cc1 _ _ cc2 cc3 => c1 c (by omega) cc2 cc3) (fun f _ => by rw [c1 83 (by decide) (by decide) (by decide)]) (fun c hc _ _ => f1 c (by omega)) (fun q hq => f2 q (by omega) (by omega) (by omega) (by omega))))⟩
theorem a_let (h : RelS B S T) (x y : Int32) : alk B (jv 1900 202 0 [some (.ref 0), some (.int x), some (.int y)] [] S) (jv 1900 298 0 [some (.ref 0), some (.int x), some (.int y)] [] T) := by
  obtain ⟨g, g', N, I, J, L, L', pu, pw, hg, hN, rfl, rfl, hR⟩ := h
  have hS : RelS B (shC, I, L, pX (some g) (some g') pu pw) (shR, J, L', pR) := RelS.mk hg hN hR
  obtain ⟨F, cms, M, s, z, hb, hl, hk, hr⟩ := id hR
  rcases hg with ⟨rfl, rfl⟩ | ⟨rfl, rfl⟩
  · have hg : gg 38 49 := Or.inl ⟨rfl, rfl⟩
    rcases let_38 (d := 1898) (e := 1899) (L := L) (L' := L') (pb := some 49) (pu := pu) (pw := pw) (by decide) (by decide) hk.1 hr.1 hk.2.2.2 hb.2.2.2 x y with ⟨v, q1, q2⟩ | ⟨v, I2, J2, L2, L2', hK, kn, hT, ⟨c1, c2, c3⟩, ⟨f1, f2, f3, f4⟩, q1, q2⟩
    · exact alk.ask hS ⟨_, q1, q2⟩
    · have hdw : I 0 11 = 0 ∨ I2 = I := hdw_of (L := L) (P := pX (some 38) (some 49) pu pw) (fun z => by
        exact ⟨_, by rw [B202_0_g38, if_neg z, B202_31_g38]⟩) q1
      exact ⟨_, _, _, q1, q2, RelS.mk hg hN (Rel.mk2 hg hb hl hk (fun c hc => c1 c (by omega) (by omega) (by omega)) (fun c c0 cc => f1 c c0) (fun q hq => f2 q (by omega) (by omega) (by omega) (by omega)) (fun c cc1 cc2 => c3 c (by omega) (by omega) (by omega) (by omega) (by omega)) hdw hT (hr.cg (fun c cc1 _ _ cc2 cc3 => c1 c (by omega) cc2 cc3) (fun f _ => by rw [c1 83 (by decide) (by decide) (by decide)]) (fun c hc _ _ => f1 c (by omega)) (fun q hq => f2 q (by omega) (by omega) (by omega) (by omega))))⟩
  · have hg : gg 49 38 := Or.inr ⟨rfl, rfl⟩
    rcases let_49 (d := 1898) (e := 1899) (L := L) (L' := L') (pb := some 38) (pu := pu) (pw := pw) (by decide) (by decide) hk.1 hr.1 hk.2.2.2 hb.2.2.2 x y with ⟨v, q1, q2⟩ | ⟨v, I2, J2, L2, L2', hK, kn, hT, ⟨c1, c2, c3⟩, ⟨f1, f2, f3, f4⟩, q1, q2⟩
    · exact alk.ask hS ⟨_, q1, q2⟩
    · have hdw : I 0 11 = 0 ∨ I2 = I := hdw_of (L := L) (P := pX (some 49) (some 38) pu pw) (fun z => by
        exact ⟨_, by rw [B202_0_g49, if_neg z, B202_31_g49]⟩) q1
      exact ⟨_, _, _, q1, q2, RelS.mk hg hN (Rel.mk2 hg hb hl hk (fun c hc => c1 c (by omega) (by omega) (by omega)) (fun c c0 cc => f1 c c0) (fun q hq => f2 q (by omega) (by omega) (by omega) (by omega)) (fun c cc1 cc2 => c3 c (by omega) (by omega) (by omega) (by omega) (by omega)) hdw hT (hr.cg (fun c cc1 _ _ cc2 cc3 => c1 c (by omega) cc2 cc3) (fun f _ => by rw [c1 83 (by decide) (by decide) (by decide)]) (fun c hc _ _ => f1 c (by omega)) (fun q hq => f2 q (by omega) (by omega) (by omega) (by omega))))⟩
theorem a_rules (h : RelS B S T) (x : Int32) : alk B (jv 1900 199 0 [some (.ref 0), some (.int x)] [] S) (jv 1900 294 0 [some (.ref 0), some (.int x)] [] T) := by
  obtain ⟨g, g', N, I, J, L, L', pu, pw, hg, hN, rfl, rfl, hR⟩ := h
  have hS : RelS B (shC, I, L, pX (some g) (some g') pu pw) (shR, J, L', pR) := RelS.mk hg hN hR
  obtain ⟨F, cms, M, s, z, hb, hl, hk, hr⟩ := id hR
  rcases hg with ⟨rfl, rfl⟩ | ⟨rfl, rfl⟩
  · obtain ⟨v, q1, q2⟩ := rules_38 (d := 1900) (e := 1900) (L := L) (L' := L') (pb := some 49) (pu := pu) (pw := pw) hk.2.2.2 hb.2.2.2 x
    exact alk.ask hS ⟨_, q1, q2⟩
  · obtain ⟨v, q1, q2⟩ := rules_49 (d := 1900) (e := 1900) (L := L) (L' := L') (pb := some 38) (pu := pu) (pw := pw) hk.2.2.2 hb.2.2.2 x
    exact alk.ask hS ⟨_, q1, q2⟩
theorem a_rest (h : RelS B S T) (x : Int32) : alk B (jv 1900 194 0 [some (.ref 0), some (.int x)] [] S) (jv 1900 324 0 [some (.ref 0), some (.int x)] [] T) := by
  obtain ⟨g, g', N, I, J, L, L', pu, pw, hg, hN, rfl, rfl, hR⟩ := h
  have hS : RelS B (shC, I, L, pX (some g) (some g') pu pw) (shR, J, L', pR) := RelS.mk hg hN hR
  obtain ⟨F, cms, M, s, z, hb, hl, hk, hr⟩ := id hR
  obtain ⟨v, q1, q2⟩ := rest_ask (d := 1899) (e := 1900) (L := L) (L' := L') (pa := some g) (pb := some g') (pu := pu) (pw := pw) hk.2.2.2.sea hb.2.2.2 x
  exact alk.ask hS ⟨_, q1, q2⟩
theorem a_water (h : RelS B S T) (x y : Int32) : alk B (jv 1900 195 0 [some (.ref 0), some (.int x), some (.int y)] [] S) (jv 1900 325 0 [some (.ref 0), some (.int x), some (.int y)] [] T) := by
  obtain ⟨g, g', N, I, J, L, L', pu, pw, hg, hN, rfl, rfl, hR⟩ := h
  have hS : RelS B (shC, I, L, pX (some g) (some g') pu pw) (shR, J, L', pR) := RelS.mk hg hN hR
  obtain ⟨F, cms, M, s, z, hb, hl, hk, hr⟩ := id hR
  obtain ⟨v, q1, q2⟩ := water_ask (d := 1898) (e := 1899) (L := L) (L' := L') (pa := some g) (pb := some g') (pu := pu) (pw := pw) hk.2.2.2.sea hb.2.2.2 x y
  exact alk.ask hS ⟨_, q1, q2⟩
theorem a_liquid (h : RelS B S T) (x : Int32) : alk B (jv 1900 196 0 [some (.ref 0), some (.int x)] [] S) (jv 1900 326 0 [some (.ref 0), some (.int x)] [] T) := by
  obtain ⟨g, g', N, I, J, L, L', pu, pw, hg, hN, rfl, rfl, hR⟩ := h
  have hS : RelS B (shC, I, L, pX (some g) (some g') pu pw) (shR, J, L', pR) := RelS.mk hg hN hR
  obtain ⟨F, cms, M, s, z, hb, hl, hk, hr⟩ := id hR
  obtain ⟨v, q1, q2⟩ := liquid_ask (d := 1898) (e := 1898) (L := L) (L' := L') (pa := some g) (pb := some g') (pu := pu) (pw := pw) hk.2.2.2.sea hb.2.2.2 x
  exact alk.ask hS ⟨_, q1, q2⟩
theorem a_along (h : RelS B S T) (x y : Int32) : alk B (jv 1900 198 0 [some (.ref 0), some (.int x), some (.int y)] [] S) (jv 1900 328 0 [some (.ref 0), some (.int x), some (.int y)] [] T) := by
  obtain ⟨g, g', N, I, J, L, L', pu, pw, hg, hN, rfl, rfl, hR⟩ := h
  have hS : RelS B (shC, I, L, pX (some g) (some g') pu pw) (shR, J, L', pR) := RelS.mk hg hN hR
  obtain ⟨F, cms, M, s, z, hb, hl, hk, hr⟩ := id hR
  obtain ⟨v, q1, q2⟩ := along_ask (d := 1898) (e := 1898) (L := L) (L' := L') (pa := some g) (pb := some g') (pu := pu) (pw := pw) hk.1 hk.2.2.2.sea hb.2.2.2 x y
  exact alk.ask hS ⟨_, q1, q2⟩
theorem a_way (h : RelS B S T) (x y : Int32) : alk B (jv 1900 209 0 [some (.ref 0), some (.int x), some (.int y)] [] S) (jv 1900 354 0 [some (.ref 0), some (.int x), some (.int y)] [] T) := by
  obtain ⟨g, g', N, I, J, L, L', pu, pw, hg, hN, rfl, rfl, hR⟩ := h
  have hS : RelS B (shC, I, L, pX (some g) (some g') pu pw) (shR, J, L', pR) := RelS.mk hg hN hR
  obtain ⟨F, cms, M, s, z, hb, hl, hk, hr⟩ := id hR
  exact alk.ask hS (way_ask (d := 1899) (e := 1900) (L := L) (L' := L') (pa := some g) (pb := some g') (pu := pu) (pw := pw) hb.2.2.2 hr.1.2.2.1.1 (fun q => (hr.1.2.2.1.2 q).2) x y)
theorem a_step (h : RelS B S T) (x y : Int32) : alk B (jv 1900 210 0 [some (.ref 0), some (.int x), some (.int y)] [] S) (jv 1900 355 0 [some (.ref 0), some (.int x), some (.int y)] [] T) := by
  obtain ⟨g, g', N, I, J, L, L', pu, pw, hg, hN, rfl, rfl, hR⟩ := h
  have hS : RelS B (shC, I, L, pX (some g) (some g') pu pw) (shR, J, L', pR) := RelS.mk hg hN hR
  obtain ⟨F, cms, M, s, z, hb, hl, hk, hr⟩ := id hR
  exact alk.ask hS (step_ask (d := 1899) (e := 1900) (L := L) (L' := L') (pa := some g) (pb := some g') (pu := pu) (pw := pw) hb.2.2.2 hr.1.2.2.1.1 (fun q => (hr.1.2.2.1.2 q).2) x y)
theorem a_task (h : RelS B S T) (x y : Int32) : alk B (jv 1900 212 0 [some (.ref 0), some (.int x), some (.int y)] [] S) (jv 1900 360 0 [some (.ref 0), some (.int x), some (.int y)] [] T) := by
  obtain ⟨g, g', N, I, J, L, L', pu, pw, hg, hN, rfl, rfl, hR⟩ := h
  have hS : RelS B (shC, I, L, pX (some g) (some g') pu pw) (shR, J, L', pR) := RelS.mk hg hN hR
  obtain ⟨F, cms, M, s, z, hb, hl, hk, hr⟩ := id hR
  exact alk.ask hS (task_ask (d := 1899) (e := 1899) (L := L) (L' := L') (pa := some g) (pb := some g') (pu := pu) (pw := pw) hb.2.2.2 hr.1.2.2.2.1 hr.1.2.2.2.2 hk.1.2.2.2.1 x y)
theorem a_piece (h : RelS B S T) (x y : Int32) : alk B (jv 1900 204 0 [some (.ref 0), some (.int x), some (.int y)] [] S) (jv 1900 338 0 [some (.ref 0), some (.int x), some (.int y)] [] T) := by
  obtain ⟨g, g', N, I, J, L, L', pu, pw, hg, hN, rfl, rfl, hR⟩ := h
  have hS : RelS B (shC, I, L, pX (some g) (some g') pu pw) (shR, J, L', pR) := RelS.mk hg hN hR
  obtain ⟨F, cms, M, s, z, hb, hl, hk, hr⟩ := id hR
  exact alk.ask hS (piece_ask (d := 1899) (e := 1900) (L := L) (L' := L') (pa := some g) (pb := some g') (pu := pu) (pw := pw) hb.2.2.2 hr.1.1.1 hr.1.1.2 x y)
theorem a_rod (h : RelS B S T) (x : Int32) : alk B (jv 1900 207 0 [some (.ref 0), some (.int x)] [] S) (jv 1900 344 0 [some (.ref 0), some (.int x)] [] T) := by
  obtain ⟨g, g', N, I, J, L, L', pu, pw, hg, hN, rfl, rfl, hR⟩ := h
  have hS : RelS B (shC, I, L, pX (some g) (some g') pu pw) (shR, J, L', pR) := RelS.mk hg hN hR
  obtain ⟨F, cms, M, s, z, hb, hl, hk, hr⟩ := id hR
  exact alk.ask hS (rod_ask (d := 1899) (e := 1899) (L := L) (L' := L') (pa := some g) (pb := some g') (pu := pu) (pw := pw) hb.2.2.2 hr.1.2.1.1 hr.2.2 (fun k k9 => hk.1.rods k9) hk.1.2.2.2.1 x)
theorem a_model (h : RelS B S T) (x y u : Int32) : alk B (jv 1900 179 0 [some (.ref 0), some (.int x), some (.int y), some (.int u)] [] S) (jv 1900 236 0 [some (.ref 0), some (.int x), some (.int y), some (.int u)] [] T) := by
  obtain ⟨g, g', N, I, J, L, L', pu, pw, hg, hN, rfl, rfl, hR⟩ := h
  have hS : RelS B (shC, I, L, pX (some g) (some g') pu pw) (shR, J, L', pR) := RelS.mk hg hN hR
  obtain ⟨F, cms, M, s, z, hb, hl, hk, hr⟩ := id hR
  exact alk.ask hS (model_ask (d := 1899) (e := 1899) (L := L) (L' := L') (pa := some g) (pb := some g') (pu := pu) (pw := pw) hb.2.2.2 (fun q hq => (hk.1.1 q hq).trans (hk.1.2.1 q hq).symm) hk.1.2.2.2.1 x y u)
theorem a_log (h : RelS B S T) (x : Int32) : alk B (jv 1900 180 0 [some (.ref 0), some (.int x)] [] S) (jv 1900 237 0 [some (.ref 0), some (.int x)] [] T) := by
  obtain ⟨g, g', N, I, J, L, L', pu, pw, hg, hN, rfl, rfl, hR⟩ := h
  have hS : RelS B (shC, I, L, pX (some g) (some g') pu pw) (shR, J, L', pR) := RelS.mk hg hN hR
  obtain ⟨F, cms, M, s, z, hb, hl, hk, hr⟩ := id hR
  exact alk.ask hS (log_ask (d := 1899) (e := 1900) (L := L) (L' := L') (pa := some g) (pb := some g') (pu := pu) (pw := pw) hl.2.1.2.1 hl.2.1.2.2.1 hl.2.1.1 (fun i hi => (hl.2.1.2.2.2 i hi).1.trans (hl.2.1.2.2.2 i hi).2.symm) x)
theorem a_told (h : RelS B S T) (x : Int32) : alk B (jv 1900 183 0 [some (.ref 0), some (.int x)] [] S) (jv 1900 241 0 [some (.ref 0), some (.int x), none, none] [] T) := by
  obtain ⟨g, g', N, I, J, L, L', pu, pw, hg, hN, rfl, rfl, hR⟩ := h
  have hS : RelS B (shC, I, L, pX (some g) (some g') pu pw) (shR, J, L', pR) := RelS.mk hg hN hR
  obtain ⟨F, cms, M, s, z, hb, hl, hk, hr⟩ := id hR
  obtain ⟨n, -, n2, n3, -⟩ := hb.2.2.1
  exact alk.ask hS (told_ask (d := 1899) (e := 1900) (L := L) (L' := L') (pa := some g) (pb := some g') (pu := pu) (pw := pw) (hl.2.2.2.2.2.1.trans hl.2.2.2.2.2.2.1.symm) (hl.2.1.2.1.trans hl.2.1.2.2.1.symm) (n2.trans n3.symm) hb.2.2.2 hb.1 hb.2.1.1 hb.2.1.2 x)
theorem a_sheet (h : RelS B S T) (x y : Int32) : alk B (jv 1900 205 0 [some (.ref 0), some (.int x), some (.int y)] [] S) (jv 1900 339 0 [some (.ref 0), some (.int x), some (.int y), none, none, none, none] [] T) := by
  obtain ⟨g, g', N, I, J, L, L', pu, pw, hg, hN, rfl, rfl, hR⟩ := h
  have hS : RelS B (shC, I, L, pX (some g) (some g') pu pw) (shR, J, L', pR) := RelS.mk hg hN hR
  obtain ⟨F, cms, M, s, z, hb, hl, hk, hr⟩ := id hR
  obtain ⟨I2, J2, ⟨c1, c2⟩, f1, v, q1, q2⟩ := sheet_ask (d := 1895) (e := 1898) (L := L) (L' := L') (pa := some g) (pb := some g') (pu := pu) (pw := pw) hb.2.2.2 hr.1.1.1 (fun q => ⟨hr.1.1.2 q, hr.2.1 q⟩) hk.1.2.2.2.1 x y
  have f1 : ∀ c, c ≠ 58 → c ≠ 59 → J2 c = J c := f1
  have hdw : I 0 11 = 0 ∨ I2 = I := hdw_of (L := L) (P := pX (some g) (some g') pu pw) (fun z => by
    rw [B205_0, B205_19, if_neg z]; repeat' split
    all_goals exact ⟨_, rfl⟩) q1
  have eI : ∀ c, c ≤ 82 → I2 c = I c := fun c hc => c1 c (by omega) (by omega) (by omega)
  have hq : mQ (M cms) I2 J2 := ((hk.1.fr (eI 2 (by decide))).frR (fun x x1 x2 => f1 x (by omega) (by omega))).q
  exact ⟨_, _, _, q1, q2, RelS.mk hg hN (Rel.mk2 hg hb hl hk (fun c hc => eI c (by omega)) (fun c c0 cc => f1 c (by omega) (by omega)) (fun q hq => by rw [f1 0 (by decide) (by decide)]) (fun _ _ _ => rfl) hdw (hk.2.2.2.bk hg.b hq (eI 2 (by decide)) (fun c cc1 cc2 cc3 cc4 => c1 c cc3 cc4 cc2) (fun f hf => c2 f (by omega) (by omega)) (fun c cc1 cc2 => f1 c (by omega) (by omega)) (fun q _ => by rw [f1 0 (by decide) (by decide)])) (hr.cg (fun c cc1 cc2 cc3 _ _ => c1 c cc2 cc3 (by omega)) (fun f hf => c2 f (by omega) (by omega)) (fun c _ cc1 cc2 => f1 c cc1 cc2) (fun q _ => by rw [f1 0 (by decide) (by decide)])))⟩
end SECI
