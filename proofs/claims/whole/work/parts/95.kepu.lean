/-! THE KEPT MODEL: plan(), bars() -/
section KEPU
variable {d e : Nat} {I J : Nat → Nat → Int32} {L L' : Nat → Nat → Int64} {pa pb pu pw : Option Nat} {m : Nat → Int32}
theorem ok_m {q a b c N : Nat} {v : Int32} (h : okV q v) (ha : a < 12) (hb : b < rowsN.getD a 0) (hc : c < fieldsN.getD a 0) (hq : q = fpN.getD a 0 + b * fieldsN.getD a 0 + c) (hl : ∀ v : Int32, v < 0 → v < leastv a c) (hm : mostv a c = nI N) : ∃ k, k ≤ N ∧ v = nI k := by
  have h1 := h.1 a b c ha hb hc hq
  unfold mbv at h1
  rw [hm] at h1
  by_cases h2 : v < leastv a c
  · rw [if_pos h2] at h1; exact absurd h1 (by decide)
  rw [if_neg h2] at h1
  by_cases h3 : nI N < v
  · rw [if_pos h3] at h1; exact absurd h1 (by decide)
  obtain ⟨j, j1, j2⟩ := nI_of (fun z => h2 (hl v z))
  subst j2
  refine ⟨j, ?_, rfl⟩
  by_cases q : N < j
  · exact absurd (nI_lt q j1) h3
  · omega
theorem mK.plan (h : mK m I J) : ∃ dy hd cr fs bt HA CA, pMod dy hd cr fs bt HA CA (I 2) ∧ pMod dy hd cr fs bt HA CA (J 6) := by
  have lo0 : ∀ v : Int32, v < 0 → v < (0 : Int32) := fun v z => z
  have lo1 : ∀ v : Int32, v < 0 → v < (1 : Int32) := fun v z => Int32.lt_trans z (by decide)
  obtain ⟨HA, ha1, ha2⟩ := ok_m (N := 6) (h.2.2.1 6 (by decide)) (a := 0) (b := 0) (c := 6) (by decide) (by decide) (by decide) rfl (by rw [show leastv 0 6 = 1 by decide]; exact lo1) (by decide)
  obtain ⟨CA, ca1, ca2⟩ := ok_m (N := 6) (h.2.2.1 7 (by decide)) (a := 0) (b := 0) (c := 7) (by decide) (by decide) (by decide) rfl (by rw [show leastv 0 7 = 1 by decide]; exact lo1) (by decide)
  have one : ∀ t, t < 7 → (∃ x, x ≤ 20 ∧ m (844 + t * 5) = nI x) ∧ (∃ x, x ≤ 6 ∧ m (845 + t * 5) = nI x) ∧ (∃ x, x ≤ 6 ∧ m (846 + t * 5) = nI x) ∧ ∃ x, x ≤ 40 ∧ m (847 + t * 5) = nI x := by
    intro t ht
    refine ⟨ok_n (h.2.2.1 (844 + t * 5) (by omega)) (a := 10) (b := t) (c := 0) (by decide) ht (by decide) (show 844 + t * 5 = 844 + t * 5 + 0 by omega) (by decide) (by decide) (by decide), ok_n (h.2.2.1 (845 + t * 5) (by omega)) (a := 10) (b := t) (c := 1) (by decide) ht (by decide) (show 845 + t * 5 = 844 + t * 5 + 1 by omega) (by decide) (by decide) (by decide), ok_n (h.2.2.1 (846 + t * 5) (by omega)) (a := 10) (b := t) (c := 2) (by decide) ht (by decide) (show 846 + t * 5 = 844 + t * 5 + 2 by omega) (by decide) (by decide) (by decide), ok_n (h.2.2.1 (847 + t * 5) (by omega)) (a := 10) (b := t) (c := 3) (by decide) ht (by decide) (show 847 + t * 5 = 844 + t * 5 + 3 by omega) (by decide) (by decide) (by decide)⟩
  have cl : ∀ {q N x : Nat}, N < 2 ^ 31 → x ≤ N → m q = nI x → m q = nI (m q).toNatClampNeg ∧ (m q).toNatClampNeg ≤ N := by
    intro q N x hN hx hq
    rw [hq, nI_clamp (by omega)]
    exact ⟨rfl, hx⟩
  have both : ∀ g : Nat → Int32, (∀ q, q < 1189 → g q = m q) → pMod (fun t => (m (844 + t * 5)).toNatClampNeg) (fun t => (m (845 + t * 5)).toNatClampNeg) (fun t => (m (846 + t * 5)).toNatClampNeg) (fun t => (m (847 + t * 5)).toNatClampNeg) (fun t => m (848 + t * 5)) HA CA g := by
    intro g hg
    refine ⟨ha1, ca1, by rw [hg 6 (by decide), ha2], by rw [hg 7 (by decide), ca2], fun t ht => ?_⟩
    obtain ⟨⟨x0, a0, b0⟩, ⟨x1, a1, b1⟩, ⟨x2, a2, b2⟩, ⟨x3, a3, b3⟩⟩ := one t ht
    have c0 := cl (by decide) a0 b0
    have c1 := cl (by decide) a1 b1
    have c2 := cl (by decide) a2 b2
    have c3 := cl (by decide) a3 b3
    refine ⟨c0.2, c1.2, c2.2, c3.2, ?_, ?_, ?_, ?_, ?_⟩
    · rw [hg _ (by omega)]; exact c0.1
    · rw [hg _ (by omega)]; exact c1.1
    · rw [hg _ (by omega)]; exact c2.1
    · rw [hg _ (by omega)]; exact c3.1
    · rw [hg _ (by omega)]
  exact ⟨_, _, _, _, _, HA, CA, both (I 2) h.1, both (J 6) h.2.1⟩
end KEPU
