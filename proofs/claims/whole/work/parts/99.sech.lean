/-! ARMS: what is found by the yard's works; frames -/
section SECH
variable {I J I2 J2 : Nat → Nat → Int32} {L L' L2 L2' : Nat → Nat → Int64} {S T : jS} {B g N N0 cms z : Nat} {m : Nat → Int32} {F : Nat → Int32} {M : Nat → Nat → Int32} {s : Nat → Nat}
def k1R (I J : Nat → Nat → Int32) : Prop := I 83 0 = J 0 87 ∧ (I 83 0 ≠ 0 → pieceRel I J ∧ sheetRel I J)
def k2R (m : Nat → Int32) (I J : Nat → Nat → Int32) : Prop := I 107 0 = J 0 103 ∧ (I 107 0 ≠ 0 → barRel (fun k => mNa m (879 + k)) I J)
def k3R (I J : Nat → Nat → Int32) : Prop := I 96 0 = J 0 107 ∧ (I 96 0 ≠ 0 → I 96 1 = J 0 108 ∧ wayRel I J)
def k4R (I J : Nat → Nat → Int32) : Prop := I 107 1 = J 0 120 ∧ (I 107 1 ≠ 0 → planRel I J)
theorem barRel.two {len : Nat → Nat} (h : barRel len I J) : (I 107 2 < 0 ∧ J 0 104 < 0) ∨ (¬ I 107 2 < 0 ∧ I 107 2 = J 0 104) := by
  rcases h with ⟨h1, h2⟩ | ⟨n, h1, h2, h3, -⟩
  · exact Or.inl ⟨by rw [h1]; decide, by rw [h2]; decide⟩
  · exact Or.inr ⟨by rw [h2]; exact nI_pos (by omega), h2.trans h3.symm⟩
theorem resR.split (h : resR m I J) : k1R I J ∧ k2R m I J ∧ k3R I J ∧ k4R I J := ⟨⟨h.1.1.1, fun q => ⟨h.1.1.2 q, h.2.1 q⟩⟩, ⟨h.1.2.1.1, h.2.2⟩, h.1.2.2.1, h.1.2.2.2⟩
theorem resR.join (h1 : k1R I J) (h2 : k2R m I J) (h3 : k3R I J) (h4 : k4R I J) : resR m I J := ⟨⟨⟨h1.1, fun q => (h1.2 q).1⟩, ⟨h2.1, fun q => (h2.2 q).two⟩, h3, h4⟩, fun q => (h1.2 q).2, h2.2⟩
theorem k1R.cg (h : k1R I J) (e83 : ∀ f, f < 6 → I2 83 f = I 83 f) (e1 : ∀ c, 84 ≤ c → c ≤ 90 → I2 c = I c) (e2 : ∀ c, c = 6 ∨ (48 ≤ c ∧ c ≤ 53) → J2 c = J c) (e3 : ∀ q, 87 ≤ q → q ≤ 89 → J2 0 q = J 0 q) : k1R I2 J2 := by
  unfold k1R pieceRel sheetRel shIn at *
  rw [e83 0 (by decide), e83 1 (by decide), e83 2 (by decide), e83 3 (by decide), e83 4 (by decide), e1 84 (by decide) (by decide), e1 85 (by decide) (by decide), e1 86 (by decide) (by decide), e1 87 (by decide) (by decide), e1 88 (by decide) (by decide), e1 90 (by decide) (by decide), e2 48 (by decide), e2 49 (by decide), e2 50 (by decide), e2 51 (by decide), e2 52 (by decide), e2 53 (by decide), e2 6 (by decide), e3 87 (by decide) (by decide), e3 88 (by decide) (by decide), e3 89 (by decide) (by decide)]
  exact h
theorem k2R.cg (h : k2R m I J) (e0 : I2 107 0 = I 107 0) (e2 : I2 107 2 = I 107 2) (e1 : I2 108 = I 108) (e3 : J2 0 103 = J 0 103) (e4 : J2 0 104 = J 0 104) (e5 : J2 60 = J 60) : k2R m I2 J2 := by
  unfold k2R barRel at *
  rw [e0, e2, e1, e3, e4, e5]
  exact h
theorem k3R.cg (h : k3R I J) (e1 : ∀ c, 96 ≤ c → c ≤ 100 → I2 c = I c) (e2 : ∀ c, 62 ≤ c → c ≤ 65 → J2 c = J c) (e3 : J2 0 107 = J 0 107) (e4 : J2 0 108 = J 0 108) : k3R I2 J2 := by
  unfold k3R wayRel at *
  rw [e1 96 (by decide) (by decide), e1 97 (by decide) (by decide), e1 98 (by decide) (by decide), e1 99 (by decide) (by decide), e1 100 (by decide) (by decide), e2 62 (by decide) (by decide), e2 63 (by decide) (by decide), e2 64 (by decide) (by decide), e2 65 (by decide) (by decide), e3, e4]
  exact h
theorem k4R.cg (h : k4R I J) (e1 : I2 107 1 = I 107 1) (e5 : I2 107 5 = I 107 5) (e2 : I2 110 = I 110) (e3 : I2 111 = I 111) (e4 : J2 0 120 = J 0 120) (e6 : J2 0 121 = J 0 121) (e7 : J2 6 = J 6) (e8 : J2 72 = J 72) (e9 : J2 73 = J 73) : k4R I2 J2 := by
  unfold k4R planRel at *
  rw [e1, e5, e2, e3, e4, e6, e7, e8, e9]
  exact h
theorem kwS.cg (h : kwS L) (e : ∀ c, 35 ≤ c → c ≤ 37 → L2 c = L c) : kwS L2 := by
  unfold kwS at *
  rw [e 35 (by decide) (by decide), e 36 (by decide) (by decide), e 37 (by decide) (by decide)]
  exact h
/-- the relation over a change of works, rules, sea -/
theorem Rel.mk2 {g' : Nat} (hg : gg g g') (hb : bookR I J) (hl : logR F cms M s z I J) (hk : keptR g (M cms) N0 I J L L') (eI : ∀ c, c ≤ 59 → I2 c = I c) (eJ : ∀ c, c ≠ 0 → c ≤ 17 → J2 c = J c) (j0 : ∀ q, q ≤ 22 → J2 0 q = J 0 q) (eL : ∀ c, 35 ≤ c → c ≤ 37 → L2 c = L c) (hdw : I 0 11 = 0 ∨ I2 = I) (hR : rulK g (M cms) N I2 J2 L2 L2') (hr : resR (M cms) I2 J2) : Rel g N I2 J2 L2 L2' := by
  obtain ⟨k1, k2, k3, k4⟩ := hk
  have gb := hg.b
  exact ⟨F, cms, M, s, z, hb.cg (fun c c1 c2 => eI c (by omega)) (fun f _ _ => by rw [eI 0 (by decide)]) (fun c c1 c2 => eJ c (by omega) (by omega)) (fun q q1 q2 => j0 q (by omega)), hl.cg (fun c c1 c2 => eI c (by omega)) (by rw [eI 0 (by decide)]) (by rw [eI 0 (by decide)]) (fun c c1 c2 => eJ c (by omega) (by omega)) (j0 15 (by decide)) (j0 17 (by decide)) (hdw.elim Or.inl (fun x => Or.inr (fun c _ => by rw [x]))), ⟨(k1.fr (eI 2 (by decide))).frR (fun x x1 x2 => eJ x x1 (by omega)), k2.congr (fun c c1 c2 => eI c (by omega)) (fun _ _ => rfl), k3.cg eL, hR⟩, hr⟩
/-- rules over works that leave the sea -/
theorem rulK.fresh {g' : Nat} (hg : gg g g') (h : rulK g m N I J L L') (hq : mQ m I2 J2) (e1 : ∀ c, c ≤ 82 → I2 c = I c) (h0 : I2 116 10 = 0) (eL : ∀ c, 60 ≤ c → c ≤ 72 → L2 c = L c) (e2 : ∀ c, 18 ≤ c → c ≤ 47 → J2 c = J c) (e3 : ∀ q, 27 ≤ q → q ≤ 86 → J2 0 q = J 0 q) : rulK g m N I2 J2 L2 L' := by
  have gb := hg.b
  obtain ⟨k, o, r, ans, b, c, hD, c1, c2⟩ := sea_split h.sea
  have hT : seaT m N I2 J2 L2 L' := sea_join hD ((c1.cg e1 eL).toJ hq) (c2.bk hq (fun x x1 x2 => e2 x (by omega) x2) (fun q q1 q2 => e3 q (by omega) (by omega)))
  exact h.reset hT h0 (fun c c1 c2 => e1 c (by omega)) (fun q hq => e3 q (by omega) (by omega)) (fun c c1 c2 => e2 c (by omega) (by omega)) (fun _ _ => rfl)
/-- while the power is off nothing is changed -/
theorem hdw_of {P P2 : Nat → Nat → Option Nat} {X : jO} {v : Option Value} (h : ¬ I 0 11 = 0 → ∃ w, X = some (w, (shC, I, L, P))) (q : X = some (v, (shC, I2, L2, P2))) : I 0 11 = 0 ∨ I2 = I := by
  by_cases z : I 0 11 = 0
  · exact Or.inl z
  · obtain ⟨w, h⟩ := h z
    rw [h] at q
    cases q
    exact Or.inr rfl
/-- nest -/
theorem a_nest (h : RelS B S T) (x : Int32) : alk B (jv 1900 203 0 [some (.ref 0), some (.int x)] [] S) (jv 1900 334 0 [some (.ref 0), some (.int x), none] [] T) := by
  obtain ⟨g, g', N, I, J, L, L', pu, pw, hg, hN, rfl, rfl, hR⟩ := h
  have hS : RelS B (shC, I, L, pX (some g) (some g') pu pw) (shR, J, L', pR) := RelS.mk hg hN hR
  obtain ⟨F, cms, M, s, z, hb, hl, hk, hr⟩ := id hR
  rcases nest_call (d := 1896) (e := 1896) (L := L) (L' := L') (pa := some g) (pb := some g') (pu := pu) (pw := pw) hk.1 hb.2.2.2 x with ⟨v, q1, q2⟩ | ⟨v, I2, J2, L2, ⟨n1, n2, n3, n4, n5, n6⟩, q83, q87, qp, qs, q1, q2⟩
  · exact alk.ask hS ⟨_, q1, q2⟩
  have hdw : I 0 11 = 0 ∨ I2 = I := hdw_of (fun z => by
    rw [B203_0, B203_9, if_neg z]
    split
    · exact ⟨_, rfl⟩
    · split <;> exact ⟨_, rfl⟩) q1
  have eI : ∀ c, c ≤ 82 → I2 c = I c := fun c hc => n1 c (by omega) (by omega) (by omega) (by omega) (by omega) (by omega) (by omega) (by omega) (by omega) (by omega)
  have hq : mQ (M cms) I2 J2 := ((hk.1.fr (eI 2 (by decide))).frR (fun x x1 x2 => n5 x x1 (by omega))).q
  obtain ⟨r1, r2, r3, r4⟩ := hr.split
  have z107 : I2 107 = I 107 := n1 107 (by decide) (by decide) (by decide) (by decide) (by decide) (by decide) (by decide) (by decide) (by decide) (by decide)
  exact ⟨_, _, _, q1, q2, RelS.mk hg hN (Rel.mk2 hg hb hl hk (fun c hc => eI c (by omega)) (fun c c0 c1 => n5 c c0 (by omega)) (fun q hq => n6 q (by omega) (by omega) (by omega) (by omega)) (fun c c1 c2 => n4 c (by omega) (by omega)) hdw (hk.2.2.2.fresh hg hq eI (by rw [n2, if_pos rfl]) (fun c c1 c2 => n4 c (by omega) (by omega)) (fun c c1 c2 => n5 c (by omega) (by omega)) (fun q q1 q2 => n6 q (by omega) (by omega) (by omega) (by omega))) (resR.join ⟨q83.trans q87.symm, fun _ => ⟨qp, qs⟩⟩ (r2.cg (by rw [z107]) (by rw [z107]) (n1 108 (by decide) (by decide) (by decide) (by decide) (by decide) (by decide) (by decide) (by decide) (by decide) (by decide)) (n6 103 (by decide) (by decide) (by decide) (by decide)) (n6 104 (by decide) (by decide) (by decide) (by decide)) (n5 60 (by decide) (by decide))) (r3.cg (fun c c1 c2 => n1 c (by omega) (by omega) (by omega) (by omega) (by omega) (by omega) (by omega) (by omega) (by omega) (by omega)) (fun c c1 c2 => n5 c (by omega) (by omega)) (n6 107 (by decide) (by decide) (by decide) (by decide)) (n6 108 (by decide) (by decide) (by decide) (by decide))) (r4.cg (by rw [z107]) (by rw [z107]) (n1 110 (by decide) (by decide) (by decide) (by decide) (by decide) (by decide) (by decide) (by decide) (by decide) (by decide)) (n1 111 (by decide) (by decide) (by decide) (by decide) (by decide) (by decide) (by decide) (by decide) (by decide) (by decide)) (n6 120 (by decide) (by decide) (by decide) (by decide)) (n6 121 (by decide) (by decide) (by decide) (by decide)) (n5 6 (by decide) (by decide)) (n5 72 (by decide) (by decide)) (n5 73 (by decide) (by decide)))))⟩
/-- lead -/
theorem a_lead (h : RelS B S T) : alk B (jv 1900 208 0 [some (.ref 0)] [] S) (jv 1900 348 0 [some (.ref 0), none] [] T) := by
  obtain ⟨g, g', N, I, J, L, L', pu, pw, hg, hN, rfl, rfl, hR⟩ := h
  have hS : RelS B (shC, I, L, pX (some g) (some g') pu pw) (shR, J, L', pR) := RelS.mk hg hN hR
  obtain ⟨F, cms, M, s, z, hb, hl, hk, hr⟩ := id hR
  rcases lead_call (d := 1895) (e := 1896) (L := L) (L' := L') (pa := some g) (pb := some g') (pu := pu) (pw := pw) hk.1 hb.2.2.2 with ⟨v, q1, q2⟩ | ⟨v, I2, J2, n1, n2, n3, n4, n5, n6, qw, q1, q2, q3, q4⟩
  · exact alk.ask hS ⟨_, q1, q2⟩
  have hdw : I 0 11 = 0 ∨ I2 = I := hdw_of (fun z => ⟨_, by rw [B208_0, if_neg z]⟩) q1
  have eI : ∀ c, c ≤ 82 → I2 c = I c := fun c hc => n1 c (by omega) (by omega)
  have hq : mQ (M cms) I2 J2 := ((hk.1.fr (eI 2 (by decide))).frR (fun x x1 x2 => n4 x x1 (by omega))).q
  obtain ⟨r1, r2, r3, r4⟩ := hr.split
  have z107 : I2 107 = I 107 := n1 107 (by decide) (by decide)
  exact ⟨_, _, _, q1, q2, RelS.mk hg hN (Rel.mk2 hg hb hl hk (fun c hc => eI c (by omega)) (fun c c0 c1 => n4 c c0 (by omega)) (fun q hq => n5 q (by omega) (by omega) (by omega)) (fun _ _ _ => rfl) hdw (hk.2.2.2.fresh hg hq eI (by rw [n2, if_pos rfl]) (fun _ _ _ => rfl) (fun c c1 c2 => n4 c (by omega) (by omega)) (fun q q1 q2 => n5 q (by omega) (by omega) (by omega))) (resR.join (r1.cg (fun f _ => by rw [n1 83 (by decide) (by decide)]) (fun c c1 c2 => n1 c (by omega) (by omega)) (fun c hc => n4 c (by omega) (by omega)) (fun q q1 q2 => n5 q (by omega) (by omega) (by omega))) (r2.cg (by rw [z107]) (by rw [z107]) (n1 108 (by decide) (by decide)) (n5 103 (by decide) (by decide) (by decide)) (n5 104 (by decide) (by decide) (by decide)) (n4 60 (by decide) (by decide))) ⟨n3.trans n6.symm, fun _ => ⟨q3.trans q4.symm, qw⟩⟩ (r4.cg (by rw [z107]) (by rw [z107]) (n1 110 (by decide) (by decide)) (n1 111 (by decide) (by decide)) (n5 120 (by decide) (by decide) (by decide)) (n5 121 (by decide) (by decide) (by decide)) (n4 6 (by decide) (by decide)) (n4 72 (by decide) (by decide)) (n4 73 (by decide) (by decide)))))⟩
/-- bars -/
theorem a_bars (h : RelS B S T) : alk B (jv 1900 206 0 [some (.ref 0)] [] S) (jv 1900 342 0 [some (.ref 0), none, none] [] T) := by
  obtain ⟨g, g', N, I, J, L, L', pu, pw, hg, hN, rfl, rfl, hR⟩ := h
  have hS : RelS B (shC, I, L, pX (some g) (some g') pu pw) (shR, J, L', pR) := RelS.mk hg hN hR
  obtain ⟨F, cms, M, s, z, hb, hl, hk, hr⟩ := id hR
  rcases bars_call (d := 1889) (e := 1890) (L := L) (L' := L') (pa := some g) (pb := some g') (pu := pu) (pw := pw) hk.1 hb.2.2.2 with ⟨v, q1, q2⟩ | ⟨v, I2, J2, n1, n2, n3, n4, n5, n6, n7, n8, qw, q1, q2⟩
  · exact alk.ask hS ⟨_, q1, q2⟩
  have hdw : I 0 11 = 0 ∨ I2 = I := hdw_of (fun z => ⟨_, by rw [B206_0, if_neg z]⟩) q1
  have eI : ∀ c, c ≤ 82 → I2 c = I c := fun c hc => n1 c (by omega) (by omega) (by omega) (by omega)
  have hq : mQ (M cms) I2 J2 := ((hk.1.fr (eI 2 (by decide))).frR (fun x x1 x2 => n4 x x1 (by omega) (by omega))).q
  obtain ⟨r1, r2, r3, r4⟩ := hr.split
  exact ⟨_, _, _, q1, q2, RelS.mk hg hN (Rel.mk2 hg hb hl hk (fun c hc => eI c (by omega)) (fun c c0 c1 => n4 c c0 (by omega) (by omega)) (fun q hq => n5 q (by omega) (by omega)) (fun _ _ _ => rfl) hdw (hk.2.2.2.fresh hg hq eI n7 (fun _ _ _ => rfl) (fun c c1 c2 => n4 c (by omega) (by omega) (by omega)) (fun q q1 q2 => n5 q (by omega) (by omega))) (resR.join (r1.cg (fun f _ => by rw [n1 83 (by decide) (by decide) (by decide) (by decide)]) (fun c c1 c2 => n1 c (by omega) (by omega) (by omega) (by omega)) (fun c hc => n4 c (by omega) (by omega) (by omega)) (fun q q1 q2 => n5 q (by omega) (by omega))) ⟨n6.trans n8.symm, fun _ => qw⟩ (r3.cg (fun c c1 c2 => n1 c (by omega) (by omega) (by omega) (by omega)) (fun c c1 c2 => n4 c (by omega) (by omega) (by omega)) (n5 107 (by decide) (by decide)) (n5 108 (by decide) (by decide))) (r4.cg (n2 1 (by decide) (by decide)) (n2 5 (by decide) (by decide)) (n1 110 (by decide) (by decide) (by decide) (by decide)) (n1 111 (by decide) (by decide) (by decide) (by decide)) (n5 120 (by decide) (by decide)) (n5 121 (by decide) (by decide)) (n4 6 (by decide) (by decide) (by decide)) (n4 72 (by decide) (by decide) (by decide)) (n4 73 (by decide) (by decide) (by decide)))))⟩
/-- plan -/
theorem a_plan (h : RelS B S T) : alk B (jv 1900 211 0 [some (.ref 0)] [] S) (jv 1900 356 0 [some (.ref 0), none, none, none] [] T) := by
  obtain ⟨g, g', N, I, J, L, L', pu, pw, hg, hN, rfl, rfl, hR⟩ := h
  have hS : RelS B (shC, I, L, pX (some g) (some g') pu pw) (shR, J, L', pR) := RelS.mk hg hN hR
  obtain ⟨F, cms, M, s, z, hb, hl, hk, hr⟩ := id hR
  rcases plan_call (d := 1886) (e := 1887) (L := L) (L' := L') (pa := some g) (pb := some g') (pu := pu) (pw := pw) hk.1 hb.2.2.2 with ⟨v, q1, q2⟩ | ⟨v, I2, J2, n1, n2, n3, n4, n5, n6, n7, qw, q1, q2⟩
  · exact alk.ask hS ⟨_, q1, q2⟩
  have hdw : I 0 11 = 0 ∨ I2 = I := hdw_of (fun z => ⟨_, by rw [B211_0, if_neg z]⟩) q1
  have eI : ∀ c, c ≤ 82 → I2 c = I c := fun c hc => n1 c (by omega)
  have hq : mQ (M cms) I2 J2 := ((hk.1.fr (eI 2 (by decide))).frR (fun x x1 x2 => n4 x (by omega) (by omega))).q
  obtain ⟨r1, r2, r3, r4⟩ := hr.split
  exact ⟨_, _, _, q1, q2, RelS.mk hg hN (Rel.mk2 hg hb hl hk (fun c hc => eI c (by omega)) (fun c c0 c1 => n4 c (by omega) (by omega)) (fun q hq => n5 q (by omega) (by omega)) (fun _ _ _ => rfl) hdw (hk.2.2.2.fresh hg hq eI (by rw [n3, if_pos rfl]) (fun _ _ _ => rfl) (fun c c1 c2 => n4 c (by omega) (by omega)) (fun q q1 q2 => n5 q (by omega) (by omega))) (resR.join (r1.cg (fun f _ => by rw [n1 83 (by decide)]) (fun c c1 c2 => n1 c (by omega)) (fun c hc => n4 c (by omega) (by omega)) (fun q q1 q2 => n5 q (by omega) (by omega))) (r2.cg (n2 0 (by decide) (by decide) (by decide)) (n2 2 (by decide) (by decide) (by decide)) (n1 108 (by decide)) (n5 103 (by decide) (by decide)) (n5 104 (by decide) (by decide)) (n4 60 (by decide) (by decide))) (r3.cg (fun c c1 c2 => n1 c (by omega)) (fun c c1 c2 => n4 c (by omega) (by omega)) (n5 107 (by decide) (by decide)) (n5 108 (by decide) (by decide))) ⟨n6.trans n7.symm, fun _ => qw⟩))⟩
end SECH
