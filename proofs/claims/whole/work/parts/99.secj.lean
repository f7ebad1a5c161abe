/-! WHAT IS TAKEN, AND WHAT NOT: settle() beside take(), the relation over it; crash -/
section SECJ
variable {I J I2 J2 I1 J1 : Nat → Nat → Int32} {L L' L2 L2' L1 L1' : Nat → Nat → Int64} {S T : jS} {B g g' N N0 cms z d e : Nat} {m b : Nat → Int32} {F F' : Nat → Int32} {M : Nat → Nat → Int32} {s : Nat → Nat} {pa pb pu pw : Option Nat}
/-- the sea forgotten -/
theorem seaT.forget {m' : Nat → Int32} (h : seaT m N I J L L') (e60 : I2 60 2 = 0) (j59 : J2 0 59 = 0) (e6 : I2 60 6 = I 60 6) (e1 : ∀ c, 71 ≤ c → c ≤ 82 → I2 c = I c) (e2 : ∀ c, 40 ≤ c → c ≤ 41 → L2' c = L' c) : seaT m' N I2 J2 L2 L2' := by
  obtain ⟨h1, h2, h3, h4, -⟩ := h
  exact ⟨fun q hq => by rw [e1 82 (by decide) (by decide)]; exact h1 q hq, ⟨e6.trans h2.1, fun i hi => by rw [e1 71 (by decide) (by decide)]; exact h2.2 i hi⟩, by rw [e1 75 (by decide) (by decide), e1 77 (by decide) (by decide), e1 79 (by decide) (by decide)]; exact h3, by rw [e2 40 (by decide) (by decide), e2 41 (by decide) (by decide)]; exact h4, Or.inl ⟨e60, j59⟩⟩
theorem resR.zero (e83 : I2 83 0 = 0) (e96 : I2 96 0 = 0) (e107 : I2 107 0 = 0) (e1 : I2 107 1 = 0) (j87 : J2 0 87 = 0) (j103 : J2 0 103 = 0) (j107 : J2 0 107 = 0) (j120 : J2 0 120 = 0) : resR m I2 J2 := resR.join ⟨e83.trans j87.symm, fun q => absurd e83 q⟩ ⟨e107.trans j103.symm, fun q => absurd e107 q⟩ ⟨e96.trans j107.symm, fun q => absurd e96 q⟩ ⟨e1.trans j120.symm, fun q => absurd e1 q⟩
theorem recP.cg {a b : Nat → Int32} {s z : Nat} (h : recP F s a b 1189) (hz : s + 5 + 6 * chN a b 1189 ≤ z) (e : ∀ i, i < z → F' i = F i) : recP F' s a b 1189 := by
  intro y hy hn
  have h1 := chN_lt hy hn
  obtain ⟨p, q⟩ := h y hy hn
  exact ⟨(nmV_cg (fun j hj => e _ (by omega))).trans p, (nmV_cg (fun j hj => e _ (by omega))).trans q⟩
/-- one record more -/
theorem lgW.snoc (h : lgW F cms M s) (e : ∀ i, i < s cms → F' i = F i) (hr : nmV F' (s cms + 2) 2 = nI (chN (M cms) b 1189)) (hp : recP F' (s cms) (M cms) b 1189) (ob : ∀ q, q < 1189 → okV q (b q)) : lgW F' (cms + 1) (fun k => if k ≤ cms then M k else b) (fun k => if k ≤ cms then s k else s cms + 5 + 6 * chN (M cms) b 1189) := by
  have hm := fun {j k : Nat} => h.mono (j := j) (k := k)
  obtain ⟨h1, h2, h3, h4⟩ := h
  have eM : ∀ k, k ≤ cms → (if k ≤ cms then M k else b) = M k := fun k hk => if_pos hk
  have eS : ∀ k, k ≤ cms → (if k ≤ cms then s k else s cms + 5 + 6 * chN (M cms) b 1189) = s k := fun k hk => if_pos hk
  have nM : (if cms + 1 ≤ cms then M (cms + 1) else b) = b := if_neg (by omega)
  have nS : (if cms + 1 ≤ cms then s (cms + 1) else s cms + 5 + 6 * chN (M cms) b 1189) = s cms + 5 + 6 * chN (M cms) b 1189 := if_neg (by omega)
  refine ⟨by dsimp only; rw [eS 0 (Nat.zero_le _)]; exact h1, fun k hk => ?_, fun k hk => ?_, fun q hq => by dsimp only; rw [eM 0 (Nat.zero_le _)]; exact h4 q hq⟩
  · dsimp only
    by_cases q : k = cms
    · subst q
      rw [eM k (Nat.le_refl _), eS k (Nat.le_refl _), nM, nS]
      exact ⟨rfl, hr, hp⟩
    · rw [eM k (by omega), eS k (by omega), eM (k + 1) (by omega), eS (k + 1) (by omega)]
      obtain ⟨a1, a2, a3⟩ := h2 k (by omega)
      have hs := hm (j := k + 1) (k := cms) (by omega) (Nat.le_refl _)
      exact ⟨a1, (nmV_cg (fun j hj => e _ (by omega))).trans a2, a3.cg (z := s cms) (by omega) e⟩
  · dsimp only
    by_cases q : k ≤ cms
    · rw [eM k q]; exact h3 k q
    · rw [if_neg q]; exact ob
theorem lgW.five (h : lgW F cms M s) : ∀ k, k ≤ cms → 5 * k ≤ s k := by
  intro k
  induction k with
  | zero => intro _; omega
  | succ k ih =>
    intro hk
    have := ih (by omega)
    have := (h.2.1 k (by omega)).1
    omega
/-- rules over a change of the first one's readers -/
theorem rulK.rd (hg : 27 ≤ g ∧ g + 10 < 60) (h : rulK g m N I J L L') (hq : mQ m I2 J) (f2 : I2 2 = I 2) (e1 : ∀ c, (g ≤ c ∧ c ≤ g + 10) ∨ 60 ≤ c → I2 c = I c) (eL : ∀ c, 60 ≤ c → L2 c = L c) : rulK g m N I2 J L2 L' := by
  obtain ⟨k, o, r, ans, b, c, nl, nt, nu, np, nc, nr, wl, hD, h1, h2, hP, hL⟩ := h
  refine ⟨k, o, r, ans, b, c, nl, nt, nu, np, nc, nr, wl, hD, (h1.bk hq f2 (fun x x1 x2 => e1 x (by omega))).cg (fun _ _ => rfl) (fun x x1 x2 => eL x x1), h2.toI hq, hP.congr (fun x x1 x2 => e1 x (by omega)) (fun _ _ => rfl) (fun _ _ _ => rfl) (fun _ _ => rfl), ?_⟩
  have es : svL J L' (tqX g I2) (wdX m k o r ans b c I2) (woX m k o ans b c I2) wl = svL J L' (tqX g I) (wdX m k o r ans b c I) (woX m k o ans b c I) wl := by
    rw [tqX_cg (I2 := I2) (I := I) (fun x x1 x2 => e1 x (by omega)), wdX_cg (I2 := I2) (I := I) (e1 83 (by omega)) (e1 96 (by omega)) (e1 107 (by omega)), woX_cg (I2 := I2) (I := I) (e1 96 (by omega)) (e1 107 (by omega)) (e1 97 (by omega)) (e1 110 (by omega)) (e1 111 (by omega))]
  unfold letK
  rw [es, e1 116 (by omega)]
  rcases hL with z | ⟨z, zl⟩
  · exact Or.inl z
  · exact Or.inr ⟨z, zl.mv (e1 120 (by omega)) (eL 118 (by omega)) (eL 119 (by omega))⟩
/-- nothing is taken -/
theorem Rel.stN (hg : gg g g') (hb : persRel I J ∧ tapR I J ∧ I 0 11 = J 0 18) (hl : logR F cms M s z I J) (hk : keptR g (M cms) N I J L L') (hr : resR (M cms) I J) (ht : toldE I1 J1) (eL : ∀ c, c < 30 ∨ 34 < c → L1 c = L c) (eL' : ∀ c, c < 20 ∨ 35 < c → L1' c = L' c) (h : stN g g' I J I1 J1 L1') : Rel g N I1 J1 L1 L1' := by
  obtain ⟨s1, s2, s3, s4, s5⟩ := h
  obtain ⟨k1, k2, k3, k4⟩ := hk
  have gb : 38 ≤ g ∧ 38 ≤ g' ∧ g + 10 < 60 ∧ g' + 10 < 60 ∧ (g + 10 < g' ∨ g' + 10 < g) := by rcases hg with ⟨rfl, rfl⟩ | ⟨rfl, rfl⟩ <;> decide
  have kK1 : mK (M cms) I J1 := k1.frR (fun x x1 x2 => s4 x x1 (by omega))
  have kK : mK (M cms) I1 J1 := kK1.fr (s2 2 (by decide) (by decide) (by omega))
  have gI : ∀ c, g ≤ c → c ≤ g + 10 → I1 c = I c := fun c c1 c2 => s2 c (by omega) (by omega) (by omega)
  have r1 : rulK g (M cms) N I J1 L L1' := by
    have hP : prG g I J1 L1' := s1.congr (fun c c1 c2 => (gI c c1 c2).symm) (fun _ _ => rfl) (fun _ _ _ => rfl) (fun _ _ => rfl)
    rcases hg with ⟨rfl, rfl⟩ | ⟨rfl, rfl⟩
    · exact rul_again38 k1 k4 kK1 s4 (fun q q1 q2 => s5 q (by omega) (by omega) (by omega)) eL' hP
    · exact rul_again49 k1 k4 kK1 s4 (fun q q1 q2 => s5 q (by omega) (by omega) (by omega)) eL' hP
  have r2 : rulK g (M cms) N I1 J1 L1 L1' := r1.rd ⟨by omega, by omega⟩ kK.q (s2 2 (by decide) (by decide) (by omega)) (fun c hc => s2 c (by omega) (by omega) (by omega)) (fun c hc => eL c (by omega))
  refine ⟨F, cms, M, s, z, ⟨hb.1.cg (fun c c1 c2 => s2 c (by omega) (by omega) (by omega)) (fun c c1 c2 => s4 c (by omega) (by omega)), ht, hb.2.1.cg (s3 7 (by decide) (by decide)) (s5 20 (by decide) (by decide) (by decide)) (s2 26 (by decide) (by decide) (by omega)) (s4 17 (by decide) (by decide)), by rw [s3 11 (by decide) (by decide), s5 18 (by decide) (by decide) (by decide)]; exact hb.2.2⟩, hl.cg (fun c c1 c2 => s2 c (by omega) (by omega) (by omega)) (s3 8 (by decide) (by decide)) (s3 11 (by decide) (by decide)) (fun c c1 c2 => s4 c (by omega) (by omega)) (s5 15 (by decide) (by decide) (by decide)) (s5 17 (by decide) (by decide) (by decide)) (Or.inr fun c hc => s2 c (by omega) (by omega) (by omega)), ⟨kK, k2.congr gI (fun _ _ => rfl), k3.cg (fun c c1 c2 => eL c (by omega)), r2⟩, hr.cg (fun c c1 _ _ _ _ => s2 c (by omega) (by omega) (by omega)) (fun f _ => by rw [s2 83 (by decide) (by decide) (by omega)]) (fun c c1 _ _ => s4 c (by omega) (by omega)) (fun q hq => s5 q (by omega) (by omega) (by omega))⟩
/-- the model on trial is taken -/
theorem Rel.stY (hg : gg g g') (hb : persRel I J ∧ tapR I J ∧ I 0 11 = J 0 18) (h11 : I 0 11 = 0) (hl : logR F cms M s (s cms) I J) (hk : keptR g (M cms) N I J L L') (ht : toldE I1 J1) (eL : ∀ c, c < 30 ∨ 34 < c → L1 c = L c) (eL' : ∀ c, c < 20 ∨ 35 < c → L1' c = L' c) (hm : mT b I J) (rt : rtM b) (h : stY g' (M cms) b cms (s cms) F I J I1 J1 L1') : Rel g' N I1 J1 L1 L1' := by
  obtain ⟨y1, y2, y3, y4, ⟨F', y5, y6, y7, y8⟩, y9, ya, yb, ⟨c60, c83, c96, c107, c1071, c116⟩, ⟨j59, j87, j103, j107, j120⟩, yc, yd, ⟨w60, -, -, -, -⟩, ye, yf⟩ := h
  obtain ⟨l1, l2, l3, l4, l5, l6, l7, l8, l9⟩ := hl
  obtain ⟨k1, k2, k3, k4⟩ := hk
  have gb : 38 ≤ g ∧ 38 ≤ g' ∧ g + 10 < 60 ∧ g' + 10 < 60 ∧ (g + 10 < g' ∨ g' + 10 < g) := by rcases hg with ⟨rfl, rfl⟩ | ⟨rfl, rfl⟩ <;> decide
  have fI : ∀ c, c ≠ 0 → c ≠ 2 → c < 23 ∨ c = 26 ∨ (60 < c ∧ c ≠ 83 ∧ c ≠ 96 ∧ c ≠ 107 ∧ c ≠ 116) → I1 c = I c := fun c c0 c2 hc => yc c c0 c2 (by omega) (by omega) (by omega) (by omega) (by omega) (by omega) (by omega) (by omega) (by omega) (by omega)
  have fJ : ∀ c, c ≠ 0 → c ≠ 6 → c < 15 ∨ c = 17 → J1 c = J c := fun c c0 c6 hc => ye c c0 c6 (by omega) (by omega) (by omega)
  have e1 : (if cms + 1 ≤ cms then M (cms + 1) else b) = b := if_neg (by omega)
  have e2 : (if cms + 1 ≤ cms then s (cms + 1) else s cms + 5 + 6 * chN (M cms) b 1189) = s cms + 5 + 6 * chN (M cms) b 1189 := if_neg (by omega)
  refine ⟨F', cms + 1, fun k => if k ≤ cms then M k else b, fun k => if k ≤ cms then s k else s cms + 5 + 6 * chN (M cms) b 1189, s cms + 5 + 6 * chN (M cms) b 1189, ⟨hb.1.cg (fun c c1 c2 => fI c (by omega) (by omega) (by omega)) (fun c c1 c2 => fJ c (by omega) (by omega) (by omega)), ht, hb.2.1.cg (yd 7 (by decide)) (yf 20 (by decide) (by decide) (by decide) (by decide) (by decide) (by decide) (by decide) (by decide) (by decide) (by decide)) (fI 26 (by decide) (by decide) (by decide)) (fJ 17 (by decide) (by decide) (by decide)), by rw [yd 11 (by decide), yf 18 (by decide) (by decide) (by decide) (by decide) (by decide) (by decide) (by decide) (by decide) (by decide) (by decide)]; exact hb.2.2⟩, ⟨l1.snoc y6 y7 y8 hm.2.2.1, y5, ?_, ?_, Or.inl ⟨(yd 11 (by decide)).trans h11, e2.symm⟩, ya, yb, y9, fun k hk => ?_⟩, ?_, ?_⟩
  · dsimp only; rw [e2]; exact Nat.le_refl _
  · dsimp only; rw [e2]; exact y5.1
  · dsimp only
    by_cases q : k ≤ cms
    · rw [if_pos q]; exact l9 k q
    · rw [if_neg q]
      refine ⟨rt, g', I1, ?_, y2⟩
      rcases hg with ⟨rfl, rfl⟩ | ⟨rfl, rfl⟩
      · exact Or.inr rfl
      · exact Or.inl rfl
  · dsimp only
    rw [e1]
    refine ⟨⟨y3, y4, hm.2.2.1, rCst_eq1 hm.2.2.2 (fun c c0 c6 => fJ c c0 (by omega) (by omega)), rt.1⟩, y2, k3.cg (fun c c1 c2 => eL c (by omega)), rulK.mk' (k4.sea.forget c60 j59 (w60 6 (by decide)) (fun c c1 c2 => fI c (by omega) (by omega) (by omega)) (fun c c1 c2 => eL' c (by omega))) y1 c116⟩
  · exact resR.zero c83 c96 c107 c1071 j87 j103 j107 j120
end SECJ
