/-! THE RELATION OF BOTH -/
section SECF
variable {d e : Nat} {I J I2 J2 : Nat → Nat → Int32} {L L' L2 L2' : Nat → Nat → Int64} {pa pb pu pw : Option Nat} {m : Nat → Int32} {N cms z g : Nat} {F : Nat → Int32} {M : Nat → Nat → Int32} {s : Nat → Nat}
/-- the text of a model can be read -/
def txO (m : Nat → Int32) : Prop := ∃ g I, (g = 38 ∨ g = 49) ∧ kpT g m I
/-- the tape -/
def tapR (I J : Nat → Nat → Int32) : Prop := ∃ n, n ≤ 1200 ∧ I 0 7 = nI n ∧ J 0 20 = nI n ∧ ∀ i, i < n → I 26 i = J 17 i
/-- persons, tape, what is told -/
def bookR (I J : Nat → Nat → Int32) : Prop := persRel I J ∧ toldE I J ∧ tapR I J ∧ I 0 11 = J 0 18
/-- nothing is known while the power is off -/
def dwz (I : Nat → Nat → Int32) (z sc : Nat) : Prop := (I 0 11 = 0 ∧ z = sc) ∨ (¬ I 0 11 = 0 ∧ I 60 2 = 0 ∧ I 83 0 = 0 ∧ I 96 0 = 0 ∧ I 107 0 = 0 ∧ I 107 1 = 0 ∧ I 116 10 = 0)
theorem dwz.zz {sc : Nat} (h : dwz I z sc) (q : I 0 11 = 0) : z = sc := h.elim (fun x => x.2) (fun x => absurd q x.1)
theorem dwz.cg {sc : Nat} (h : dwz I z sc) (e11 : I2 0 11 = I 0 11) (e : I 0 11 = 0 ∨ ((I2 60 2 = I 60 2 ∧ I2 83 0 = I 83 0) ∧ (I2 96 0 = I 96 0 ∧ I2 107 0 = I 107 0) ∧ I2 107 1 = I 107 1 ∧ I2 116 10 = I 116 10)) : dwz I2 z sc := by
  unfold dwz
  rw [e11]
  rcases h with ⟨h1, h2⟩ | ⟨h1, h2⟩
  · exact Or.inl ⟨h1, h2⟩
  · obtain ⟨⟨a, b⟩, ⟨c, d⟩, e, f⟩ := e.resolve_left h1
    rw [a, b, c, d, e, f]
    exact Or.inr ⟨h1, h2⟩
/-- the log, and what was committed -/
def logR (F : Nat → Int32) (cms : Nat) (M : Nat → Nat → Int32) (s : Nat → Nat) (z : Nat) (I J : Nat → Nat → Int32) : Prop := lgW F cms M s ∧ lgR z F I J ∧ z ≤ s cms ∧ s cms ≤ 40000 ∧ dwz I z (s cms) ∧ I 0 8 = nI cms ∧ J 0 15 = nI cms ∧ (∀ r, r < 148 → I 25 r = J 15 r) ∧ ∀ k, k ≤ cms → rtM (M k) ∧ txO (M k)
/-- the kept model, its rules, its sea -/
def keptR (g : Nat) (m : Nat → Int32) (N : Nat) (I J : Nat → Nat → Int32) (L L' : Nat → Nat → Int64) : Prop := mK m I J ∧ kpT g m I ∧ kwS L ∧ rulK g m N I J L L'
/-- what nest, bars, lead, plan found -/
def resR (m : Nat → Int32) (I J : Nat → Nat → Int32) : Prop := knW I J ∧ (I 83 0 ≠ 0 → sheetRel I J) ∧ (I 107 0 ≠ 0 → barRel (fun k => mNa m (879 + k)) I J)
/-- both alike -/
def Rel (g N : Nat) (I J : Nat → Nat → Int32) (L L' : Nat → Nat → Int64) : Prop := ∃ (F : Nat → Int32) (cms : Nat) (M : Nat → Nat → Int32) (s : Nat → Nat) (z : Nat), bookR I J ∧ logR F cms M s z I J ∧ keptR g (M cms) N I J L L' ∧ resR (M cms) I J
def gg (g g' : Nat) : Prop := (g = 38 ∧ g' = 49) ∨ (g = 49 ∧ g' = 38)
/-- both stores alike -/
def RelS (B : Nat) (S T : jS) : Prop := ∃ (g g' N : Nat) (I J : Nat → Nat → Int32) (L L' : Nat → Nat → Int64) (pu pw : Option Nat), gg g g' ∧ N ≤ B ∧ S = (shC, I, L, pX (some g) (some g') pu pw) ∧ T = (shR, J, L', pR) ∧ Rel g N I J L L'
/-- both answer alike -/
def alk (B : Nat) (x y : jO) : Prop := ∃ v S T, x = some (some v, S) ∧ y = some (some v, T) ∧ RelS B S T
theorem gg.b {g g' : Nat} (h : gg g g') : 27 ≤ g ∧ g + 10 < 60 := by rcases h with ⟨rfl, -⟩ | ⟨rfl, -⟩ <;> decide
theorem RelS.mono {B B' : Nat} {S T : jS} (h : RelS B S T) (hB : B ≤ B') : RelS B' S T := by
  obtain ⟨g, g', N, I, J, L, L', pu, pw, h1, h2, h3⟩ := h
  exact ⟨g, g', N, I, J, L, L', pu, pw, h1, Nat.le_trans h2 hB, h3⟩
theorem alk.mono {B B' : Nat} {x y : jO} (h : alk B x y) (hB : B ≤ B') : alk B' x y := by
  obtain ⟨v, S, T, h1, h2, h3⟩ := h
  exact ⟨v, S, T, h1, h2, h3.mono hB⟩
/-- a call that only asks -/
theorem alk.ask {B : Nat} {x y : jO} {S T : jS} (h : RelS B S T) (q : jAsk x y S T) : alk B x y := by
  obtain ⟨v, h1, h2⟩ := q
  exact ⟨v, S, T, h1, h2, h⟩
theorem RelS.mk {B : Nat} {g g' N : Nat} {I J : Nat → Nat → Int32} {L L' : Nat → Nat → Int64} {pu pw : Option Nat} (h1 : gg g g') (h2 : N ≤ B) (h : Rel g N I J L L') : RelS B (shC, I, L, pX (some g) (some g') pu pw) (shR, J, L', pR) := ⟨g, g', N, I, J, L, L', pu, pw, h1, h2, rfl, rfl, h⟩
theorem perRel.cg {p b : Nat} (h : perRel p b I J) (e1 : ∀ c, b ≤ c → c < b + 5 → I2 c = I c) (e2 : ∀ c, 9 ≤ c → c ≤ 14 → J2 c = J c) : perRel p b I2 J2 := h.eq e1 (by rw [e2 9 (by decide) (by decide)]) (by rw [e2 10 (by decide) (by decide)]) (fun q _ => by rw [e2 13 (by decide) (by decide), e2 14 (by decide) (by decide)]; exact ⟨rfl, rfl⟩) (fun r _ => by rw [e2 11 (by decide) (by decide), e2 12 (by decide) (by decide)]; exact ⟨rfl, rfl⟩)
theorem persRel.cg (h : persRel I J) (e1 : ∀ c, 8 ≤ c → c ≤ 22 → I2 c = I c) (e2 : ∀ c, 9 ≤ c → c ≤ 14 → J2 c = J c) : persRel I2 J2 := ⟨h.1.cg (fun c c1 c2 => e1 c (by omega) (by omega)) e2, h.2.1.cg (fun c c1 c2 => e1 c (by omega) (by omega)) e2, h.2.2.cg (fun c c1 c2 => e1 c (by omega) (by omega)) e2⟩
theorem toldE.cg (h : toldE I J) (e1 : I2 0 9 = I 0 9) (e2 : I2 0 10 = I 0 10) (e3 : J2 0 21 = J 0 21) (e4 : J2 0 22 = J 0 22) : toldE I2 J2 := by
  unfold toldE
  rw [e1, e2, e3, e4]; exact h
theorem tapR.cg (h : tapR I J) (e1 : I2 0 7 = I 0 7) (e2 : J2 0 20 = J 0 20) (e3 : I2 26 = I 26) (e4 : J2 17 = J 17) : tapR I2 J2 := by
  obtain ⟨n, h1, h2, h3, h4⟩ := h
  exact ⟨n, h1, e1.trans h2, e2.trans h3, fun i hi => by rw [e3, e4]; exact h4 i hi⟩
theorem bookR.cg (h : bookR I J) (e1 : ∀ c, 8 ≤ c → c ≤ 26 → I2 c = I c) (e0 : ∀ f, 7 ≤ f → f ≤ 11 → I2 0 f = I 0 f) (e2 : ∀ c, 9 ≤ c → c ≤ 17 → J2 c = J c) (e3 : ∀ q, 15 ≤ q → q ≤ 22 → J2 0 q = J 0 q) : bookR I2 J2 := by
  obtain ⟨h1, h2, h3, h4⟩ := h
  exact ⟨h1.cg (fun c c1 c2 => e1 c c1 (by omega)) (fun c c1 c2 => e2 c c1 (by omega)), h2.cg (e0 9 (by decide) (by decide)) (e0 10 (by decide) (by decide)) (e3 21 (by decide) (by decide)) (e3 22 (by decide) (by decide)), h3.cg (e0 7 (by decide) (by decide)) (e3 20 (by decide) (by decide)) (e1 26 (by decide) (by decide)) (e2 17 (by decide) (by decide)), by rw [e0 11 (by decide) (by decide), e3 18 (by decide) (by decide)]; exact h4⟩
theorem logR.cg (h : logR F cms M s z I J) (e1 : ∀ c, 23 ≤ c → c ≤ 25 → I2 c = I c) (e8 : I2 0 8 = I 0 8) (e11 : I2 0 11 = I 0 11) (e2 : ∀ c, 15 ≤ c → c ≤ 16 → J2 c = J c) (e15 : J2 0 15 = J 0 15) (e17 : J2 0 17 = J 0 17) (ed : I 0 11 = 0 ∨ ∀ c, c = 60 ∨ c = 83 ∨ c = 96 ∨ c = 107 ∨ c = 116 → I2 c = I c) : logR F cms M s z I2 J2 := by
  obtain ⟨h1, ⟨l1, l2, l3, l4⟩, h3, h4, h5, h6, h7, h8, h9⟩ := h
  exact ⟨h1, ⟨l1, by rw [e1 23 (by decide) (by decide)]; exact l2, e17.trans l3, fun i hi => by rw [e1 24 (by decide) (by decide), e2 16 (by decide) (by decide)]; exact l4 i hi⟩, h3, h4, h5.cg e11 (ed.elim Or.inl (fun x => Or.inr ⟨⟨by rw [x 60 (by decide)], by rw [x 83 (by decide)]⟩, ⟨by rw [x 96 (by decide)], by rw [x 107 (by decide)]⟩, by rw [x 107 (by decide)], by rw [x 116 (by decide)]⟩)), e8.trans h6, e15.trans h7, fun r hr => by rw [e1 25 (by decide) (by decide), e2 15 (by decide) (by decide)]; exact h8 r hr, h9⟩
theorem knW.cg2 (h : knW I J) (e1 : ∀ c, 84 ≤ c → c ≠ 94 → c ≠ 95 → c ≠ 116 → c ≠ 120 → I2 c = I c) (e83 : ∀ f, f < 6 → I2 83 f = I 83 f) (e2 : ∀ c, c = 6 ∨ 48 ≤ c → c ≠ 58 → c ≠ 59 → J2 c = J c) (e3 : ∀ q, 87 ≤ q → J2 0 q = J 0 q) : knW I2 J2 := by
  unfold knW pieceRel wayRel planRel at *
  rw [e1 84 (by decide) (by decide) (by decide) (by decide) (by decide), e1 85 (by decide) (by decide) (by decide) (by decide) (by decide), e1 86 (by decide) (by decide) (by decide) (by decide) (by decide), e1 87 (by decide) (by decide) (by decide) (by decide) (by decide), e1 88 (by decide) (by decide) (by decide) (by decide) (by decide), e1 96 (by decide) (by decide) (by decide) (by decide) (by decide), e1 97 (by decide) (by decide) (by decide) (by decide) (by decide), e1 98 (by decide) (by decide) (by decide) (by decide) (by decide), e1 99 (by decide) (by decide) (by decide) (by decide) (by decide), e1 100 (by decide) (by decide) (by decide) (by decide) (by decide), e1 107 (by decide) (by decide) (by decide) (by decide) (by decide), e1 110 (by decide) (by decide) (by decide) (by decide) (by decide), e1 111 (by decide) (by decide) (by decide) (by decide) (by decide), e83 0 (by decide), e83 1 (by decide), e83 2 (by decide)]
  rw [e2 48 (by decide) (by decide) (by decide), e2 49 (by decide) (by decide) (by decide), e2 50 (by decide) (by decide) (by decide), e2 51 (by decide) (by decide) (by decide), e2 52 (by decide) (by decide) (by decide), e2 62 (by decide) (by decide) (by decide), e2 63 (by decide) (by decide) (by decide), e2 64 (by decide) (by decide) (by decide), e2 65 (by decide) (by decide) (by decide), e2 6 (by decide) (by decide) (by decide), e2 72 (by decide) (by decide) (by decide), e2 73 (by decide) (by decide) (by decide), e3 87 (by decide), e3 88 (by decide), e3 89 (by decide), e3 103 (by decide), e3 104 (by decide), e3 107 (by decide), e3 108 (by decide), e3 120 (by decide), e3 121 (by decide)]
  exact h
theorem resR.cg (h : resR m I J) (e1 : ∀ c, 84 ≤ c → c ≠ 94 → c ≠ 95 → c ≠ 116 → c ≠ 120 → I2 c = I c) (e83 : ∀ f, f < 6 → I2 83 f = I 83 f) (e2 : ∀ c, c = 6 ∨ 48 ≤ c → c ≠ 58 → c ≠ 59 → J2 c = J c) (e3 : ∀ q, 87 ≤ q → J2 0 q = J 0 q) : resR m I2 J2 := by
  obtain ⟨h1, h2, h3⟩ := h
  have e107 := e1 107 (by decide) (by decide) (by decide) (by decide) (by decide)
  refine ⟨h1.cg2 e1 e83 e2 e3, fun q => ?_, fun q => ?_⟩
  · rw [e83 0 (by decide)] at q
    obtain ⟨w, hh, o, x⟩ := h2 q
    refine ⟨w, hh, o, ?_⟩
    unfold shIn at *
    rw [e83 3 (by decide), e83 4 (by decide), e2 6 (by decide) (by decide) (by decide), e1 90 (by decide) (by decide) (by decide) (by decide) (by decide), e2 53 (by decide) (by decide) (by decide)]
    exact x
  · rw [e107] at q
    have x := h3 q
    unfold barRel at *
    rw [e107, e3 104 (by decide), e1 108 (by decide) (by decide) (by decide) (by decide) (by decide), e2 60 (by decide) (by decide) (by decide)]
    exact x
/-- a change of persons, tape and what is told -/
theorem Rel.bk {g g' : Nat} (hg : gg g g') (h : Rel g N I J L L') (hb : bookR I2 J2) (eI : ∀ c, c ≠ 0 → c < 8 ∨ 22 < c → c ≠ 26 → I2 c = I c) (e8 : I2 0 8 = I 0 8) (e11 : I2 0 11 = I 0 11) (eJ : ∀ c, c ≠ 0 → c < 9 ∨ 14 < c → c ≠ 17 → J2 c = J c) (j0 : ∀ q, q ≠ 20 → q ≠ 21 → q ≠ 22 → J2 0 q = J 0 q) : Rel g N I2 J2 L L' := by
  obtain ⟨F, cms, M, s, z, -, hl, ⟨k1, k2, k3, k4⟩, hr⟩ := h
  have kK : mK (M cms) I2 J2 := (k1.fr (eI 2 (by decide) (by decide) (by decide))).frR (fun x x1 x2 => eJ x x1 (by omega) (by omega))
  have gb := hg.b
  exact ⟨F, cms, M, s, z, hb, hl.cg (fun c c1 c2 => eI c (by omega) (by omega) (by omega)) e8 e11 (fun c c1 c2 => eJ c (by omega) (by omega) (by omega)) (j0 15 (by decide) (by decide) (by decide)) (j0 17 (by decide) (by decide) (by decide)) (Or.inr fun c hc => eI c (by omega) (by omega) (by omega)), ⟨kK, k2.congr (fun c c1 c2 => eI c (by omega) (by omega) (by omega)) (fun _ _ => rfl), k3, k4.bk gb kK.q (eI 2 (by decide) (by decide) (by decide)) (fun c c1 _ _ _ => eI c (by omega) (by omega) (by omega)) (fun f _ => by rw [eI 83 (by decide) (by decide) (by decide)]) (fun c c1 c2 => eJ c (by omega) (by omega) (by omega)) (fun q q1 => j0 q (by omega) (by omega) (by omega))⟩, hr.cg (fun c c1 _ _ _ _ => eI c (by omega) (by omega) (by omega)) (fun f _ => by rw [eI 83 (by decide) (by decide) (by decide)]) (fun c c1 _ _ => eJ c (by omega) (by omega) (by omega)) (fun q q1 => j0 q (by omega) (by omega) (by omega))⟩
end SECF
