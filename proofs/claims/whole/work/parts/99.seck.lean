/-! COMMIT'S CORE, UNDO -/
section SECK
variable {I J I2 J2 I1 J1 : Nat → Nat → Int32} {L L' L2 L2' L1 L1' : Nat → Nat → Int64} {S T : jS} {B g g' N N0 cms z d e : Nat} {m b : Nat → Int32} {F F' : Nat → Int32} {M : Nat → Nat → Int32} {s : Nat → Nat} {pa pb pu pw : Option Nat}
/-- log, kept model, works: over a change of persons, tape, trial -/
theorem core_cg (hg : gg g g') (hl : logR F cms M s z I J) (hk : keptR g (M cms) N I J L L') (hr : resR (M cms) I J) (eI : ∀ c, c = 2 ∨ 23 ≤ c → c ≠ 26 → I2 c = I c) (e8 : I2 0 8 = I 0 8) (e11 : I2 0 11 = I 0 11) (eJ : ∀ c, c ≠ 0 → c ≤ 6 ∨ 15 ≤ c → c ≠ 17 → J2 c = J c) (j0 : ∀ q, q ≠ 20 → q ≠ 21 → q ≠ 22 → J2 0 q = J 0 q) : logR F cms M s z I2 J2 ∧ keptR g (M cms) N I2 J2 L L' ∧ resR (M cms) I2 J2 := by
  obtain ⟨k1, k2, k3, k4⟩ := hk
  have kK : mK (M cms) I2 J2 := (k1.fr (eI 2 (by decide) (by decide))).frR (fun x x1 x2 => eJ x x1 (by omega) (by omega))
  have gb := hg.b
  exact ⟨hl.cg (fun c c1 c2 => eI c (by omega) (by omega)) e8 e11 (fun c c1 c2 => eJ c (by omega) (by omega) (by omega)) (j0 15 (by decide) (by decide) (by decide)) (j0 17 (by decide) (by decide) (by decide)) (Or.inr fun c hc => eI c (by omega) (by omega)), ⟨kK, k2.congr (fun c c1 c2 => eI c (by omega) (by omega)) (fun _ _ => rfl), k3, k4.bk gb kK.q (eI 2 (by decide) (by decide)) (fun c c1 _ _ _ => eI c (by omega) (by omega)) (fun f _ => by rw [eI 83 (by decide) (by decide)]) (fun c c1 c2 => eJ c (by omega) (by omega) (by omega)) (fun q q1 => j0 q (by omega) (by omega) (by omega))⟩, hr.cg (fun c c1 _ _ _ _ => eI c (by omega) (by omega)) (fun f _ => by rw [eI 83 (by decide) (by decide)]) (fun c c1 _ _ => eJ c (by omega) (by omega) (by omega)) (fun q q1 => j0 q (by omega) (by omega) (by omega))⟩
theorem Rel.bk2 (hg : gg g g') (h : Rel g N I J L L') (hb : bookR I2 J2) (eI : ∀ c, c = 2 ∨ 23 ≤ c → c ≠ 26 → I2 c = I c) (e8 : I2 0 8 = I 0 8) (e11 : I2 0 11 = I 0 11) (eJ : ∀ c, c ≠ 0 → c ≤ 6 ∨ 15 ≤ c → c ≠ 17 → J2 c = J c) (j0 : ∀ q, q ≠ 20 → q ≠ 21 → q ≠ 22 → J2 0 q = J 0 q) : Rel g N I2 J2 L L' := by
  obtain ⟨F, cms, M, s, z, -, hl, hk, hr⟩ := h
  exact ⟨F, cms, M, s, z, hb, core_cg hg hl hk hr eI e8 e11 eJ j0⟩
/-- settle() beside take() -/
theorem settle_go (hd : 160 ≤ d) (he : 160 ≤ e) (hg : gg g g') (hR : Rel g N I J L L') (h11 : I 0 11 = 0) (eI : ∀ c, c ≠ 0 → c ≠ 4 → c ≠ 6 → I2 c = I c) (e0 : ∀ f, I2 0 f = if f = 9 then 0 else I 0 f) (eJ : ∀ c, c ≠ 7 → c ≠ 8 → J2 c = J c) (hm : mT b I2 J2) : ∃ x S1 T1, jv d 185 0 [some (.ref 0), none, none, none] [] (shC, I2, L, pX (some g) (some g') pu pw) = some (some (.int x), S1) ∧ jv e 230 0 [some (.ref 0), none, none, none, none, none] [] (shR, J2, L', pR) = some (some (.int x), T1) ∧ RelS N S1 T1 := by
  obtain ⟨F, cms, M, s, z, hb, hl, hk, hr⟩ := hR
  have z11 : I2 0 11 = I 0 11 := by rw [e0 11]; rfl
  obtain ⟨hl2, hk2, hr2⟩ := core_cg (I2 := I2) (J2 := J2) hg hl hk hr (fun c hc _ => eI c (by omega) (by omega) (by omega)) (by rw [e0 8]; rfl) z11 (fun c c0 hc _ => eJ c (by omega) (by omega)) (fun q _ _ _ => by rw [eJ 0 (by decide) (by decide)])
  have hb2 : persRel I2 J2 ∧ tapR I2 J2 ∧ I2 0 11 = J2 0 18 := ⟨hb.1.cg (fun c c1 c2 => eI c (by omega) (by omega) (by omega)) (fun c c1 c2 => eJ c (by omega) (by omega)), hb.2.2.1.cg (by rw [e0 7]; rfl) (by rw [eJ 0 (by decide) (by decide)]) (eI 26 (by decide) (by decide) (by decide)) (eJ 17 (by decide) (by decide)), by rw [z11, eJ 0 (by decide) (by decide)]; exact hb.2.2.2⟩
  have zz : z = s cms := hl2.2.2.2.2.1.zz (z11.trans h11)
  subst zz
  have c5 := hl2.1.five cms (Nat.le_refl _)
  have c40 := hl2.2.2.2.1
  rcases id hg with ⟨rfl, rfl⟩ | ⟨rfl, rfl⟩
  · obtain ⟨v, S1, w, T1, q1, q2, I1, L1, J1, L1', x, pu1, rfl, rfl, rfl, eL, eL', ht, hx⟩ := settle_sim38 (d := d) (e := e) (L := L) (L' := L') (pu := pu) (pw := pw) (a := M cms) (c := cms) hd he hm hk2.1.1 hk2.1.2.1 hk2.2.1 hk2.2.2.1 hl2.2.2.2.2.2.1 hl2.2.2.2.2.2.2.1 hl2.2.1 hl2.2.2.2.2.2.2.2.1 (by rw [e0 9]; rfl)
    rcases hx with ⟨hx, rfl, hs⟩ | ⟨hx, rfl, hs⟩
    · exact ⟨x, _, _, q1, q2, RelS.mk hg (Nat.le_refl _) (Rel.stN hg hb2 hl2 hk2 hr2 ht eL eL' hs)⟩
    · have rt := settle_rt38 hd hm (x := x) (by rw [hx]; exact nI_pos (by omega)) q1
      exact ⟨x, _, _, q1, q2, RelS.mk (Or.inr ⟨rfl, rfl⟩) (Nat.le_refl _) (Rel.stY hg hb2 (z11.trans h11) hl2 hk2 ht eL eL' hm rt hs)⟩
  · obtain ⟨v, S1, w, T1, q1, q2, I1, L1, J1, L1', x, pu1, rfl, rfl, rfl, eL, eL', ht, hx⟩ := settle_sim49 (d := d) (e := e) (L := L) (L' := L') (pu := pu) (pw := pw) (a := M cms) (c := cms) hd he hm hk2.1.1 hk2.1.2.1 hk2.2.1 hk2.2.2.1 hl2.2.2.2.2.2.1 hl2.2.2.2.2.2.2.1 hl2.2.1 hl2.2.2.2.2.2.2.2.1 (by rw [e0 9]; rfl)
    rcases hx with ⟨hx, rfl, hs⟩ | ⟨hx, rfl, hs⟩
    · exact ⟨x, _, _, q1, q2, RelS.mk hg (Nat.le_refl _) (Rel.stN hg hb2 hl2 hk2 hr2 ht eL eL' hs)⟩
    · have rt := settle_rt49 hd hm (x := x) (by rw [hx]; exact nI_pos (by omega)) q1
      exact ⟨x, _, _, q1, q2, RelS.mk (Or.inl ⟨rfl, rfl⟩) (Nat.le_refl _) (Rel.stY hg hb2 (z11.trans h11) hl2 hk2 ht eL eL' hm rt hs)⟩
/-- undo -/
theorem a_undo (h : RelS B S T) (x : Int32) : alk B (jv 1900 178 0 [some (.ref 0), some (.int x), none, none, none, none, none] [] S) (jv 1900 234 0 [some (.ref 0), some (.int x), none, none, none, none, none] [] T) := by
  obtain ⟨g, g', N, I, J, L, L', pu, pw, hg, hN, rfl, rfl, hR⟩ := h
  have hS : RelS B (shC, I, L, pX (some g) (some g') pu pw) (shR, J, L', pR) := RelS.mk hg hN hR
  obtain ⟨F, cms, M, s, z, hb, hl, hk, hr⟩ := id hR
  obtain ⟨l1, l2, l3, l4, l5, l6, l7, l8, l9⟩ := id hl
  have c5 := l1.five cms (Nat.le_refl _)
  have hbad : (x < 1 ∨ nI cms < x ∨ ¬ I 0 11 = 0) → alk B (jv 1900 178 0 [some (.ref 0), some (.int x), none, none, none, none, none] [] (shC, I, L, pX (some g) (some g') pu pw)) (jv 1900 234 0 [some (.ref 0), some (.int x), none, none, none, none, none] [] (shR, J, L', pR)) := by
    intro q
    by_cases q1 : x < 1
    · exact alk.ask hS ⟨.int (-1), by rw [B178_0, if_pos q1, B178_13], by rw [B234_0, if_pos q1, B234_13]⟩
    by_cases q2 : nI cms < x
    · exact alk.ask hS ⟨.int (-1), by rw [B178_0, if_neg q1, l6, if_pos q2, B178_13], by rw [B234_0, if_neg q1, l7, if_pos q2, B234_13]⟩
    have q3 : ¬ I 0 11 = 0 := (q.resolve_left q1).resolve_left q2
    exact alk.ask hS ⟨.int (-3), by rw [B178_0, if_neg q1, l6, if_neg q2, if_neg q3], by rw [B234_0, if_neg q1, l7, if_neg q2, if_neg (by rw [← hb.2.2.2]; exact q3)]⟩
  by_cases q1 : x < 1
  · exact hbad (Or.inl q1)
  by_cases q2 : nI cms < x
  · exact hbad (Or.inr (Or.inl q2))
  by_cases q3 : I 0 11 = 0
  case neg => exact hbad (Or.inr (Or.inr q3))
  have zz : z = s cms := l5.zz q3
  subst zz
  obtain ⟨k, hk1, rfl⟩ : ∃ k, k < cms ∧ x = nI (k + 1) := by
    have q0 : ¬ x < 0 := fun q => q1 (Int32.lt_trans q (by decide))
    obtain ⟨k, hk, rfl⟩ := nI_of q0
    have : 1 ≤ k := by
      rcases Nat.eq_zero_or_pos k with rfl | q
      · exact absurd (by decide : nI 0 < 1) q1
      · exact q
    have : k ≤ cms := Nat.le_of_not_lt (fun q => q2 (nI_lt q hk))
    exact ⟨k - 1, by omega, by rw [show k - 1 + 1 = k by omega]⟩
  rcases und_all (d := 1895) (e := 1898) (L := L) (L' := L') (pa := some g) (pb := some g') (pu := pu) (pw := pw) l2 l1 hk.1.2.2.2.1 (by omega) l6 l7 q3 (hb.2.2.2.symm.trans q3) l8 hk.1.1 hk.1.2.1 hk1 with ⟨r, I2, J2, hr148, u1, u2, u3, u4, u5, u6⟩ | ⟨b, I2, J2, y2, y3, y4, p5, p6, m2, m3, m4, m5, q6, hm, u1, u2, u3, u5, u6⟩
  · refine ⟨_, _, _, u5, u6, RelS.mk hg hN (hR.bk2 hg ⟨hb.1.cg (fun c c1 c2 => u1 c (by omega) (by omega) (by omega)) (fun c c1 c2 => u3 c (by omega) (by omega)), ?_, hb.2.2.1.cg (by rw [u2 7]; rfl) (by rw [u4 20]; rfl) (u1 26 (by decide) (by decide) (by decide)) (u3 17 (by decide) (by decide)), by rw [u2 11, u4 18]; exact hb.2.2.2⟩ (fun c hc _ => u1 c (by omega) (by omega) (by omega)) (by rw [u2 8]; rfl) (by rw [u2 11]; rfl) (fun c c0 hc _ => u3 c c0 (by omega)) (fun q _ h21 h22 => by rw [u4 q, if_neg h22, if_neg h21]))⟩
    unfold toldE
    rw [u2 9, u4 21, u4 22]
    exact ⟨rfl, rfl⟩
  · obtain ⟨x, S1, T1, s1, s2, s3⟩ := settle_go (d := 1899) (e := 1899) (L := L) (L' := L') (pu := pu) (pw := pw) (I2 := I2) (J2 := J2) (by decide) (by decide) hg hR q3 u1 u2 u3 hm
    refine ⟨.int x, S1, T1, ?_, ?_, s3.mono hN⟩
    · refine u5.trans ?_
      rw [jgo_some (d := 1899) rfl s1]
      obtain ⟨h, h', N1, I3, J3, L3, L3', pu3, pw3, -, -, rfl, rfl, -⟩ := s3
      dsimp only [Option.toList_some, Option.toList_none, List.cons_append, List.nil_append]
      exact B178_170 _ _ _ _ _ _ _ _ _ _ _ _ _ _
    · refine u6.trans ?_
      rw [jgo_some (d := 1899) rfl s2]
      obtain ⟨h, h', N1, I3, J3, L3, L3', pu3, pw3, -, -, rfl, rfl, -⟩ := s3
      dsimp only [Option.toList_some, Option.toList_none, List.cons_append, List.nil_append]
      exact B234_240 _ _ _ _ _ _ _ _ _ _
end SECK
