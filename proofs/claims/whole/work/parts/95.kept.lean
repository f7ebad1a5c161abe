/-! THE KEPT MODEL: what its right rows give; nest(), lead(), plan() as calls -/
section KEPT
variable {d e : Nat} {I J : Nat → Nat → Int32} {L L' : Nat → Nat → Int64} {pa pb pu pw : Option Nat} {m : Nat → Int32}
/-- the kept model in both: values as they may be, wanted plates right -/
def mK (m : Nat → Int32) (I J : Nat → Nat → Int32) : Prop := (∀ q, q < 1189 → I 2 q = m q) ∧ (∀ q, q < 1189 → J 6 q = m q) ∧ (∀ q, q < 1189 → okV q (m q)) ∧ rCst J ∧ ∀ k, k < 8 → plR m k
theorem mK.nat (h : mK m I J) (t r f N : Nat) (ht : t < 12) (hr : r < rowsN.getD t 0) (hf : f < fieldsN.getD t 0) (hq : fpN.getD t 0 + r * fieldsN.getD t 0 + f < 1189) (hl : leastv t f = 0) (hm : mostv t f = nI N) (hN : N < 2 ^ 31) : ∃ k, k ≤ N ∧ m (fpN.getD t 0 + r * fieldsN.getD t 0 + f) = nI k := ok_n (h.2.2.1 _ hq) ht hr hf rfl hl hm hN
theorem smN_one (f : Nat → Nat) : ∀ (n j : Nat), j < n → f j ≤ smN f n := by
  intro n
  induction n with
  | zero => intro j h; exact absurd h (Nat.not_lt_zero _)
  | succ n ih =>
    intro j h
    show f j ≤ smN f n + f n
    by_cases q : j = n
    · subst q; omega
    · have := ih j (by omega); omega
theorem bits_some {a : Nat} (h : a < 2 ^ 24) (h0 : a ≠ 0) : ∃ i, i < 24 ∧ a / 2 ^ i % 2 = 1 := by
  refine Classical.byContradiction fun q => h0 (Nat.eq_of_testBit_eq fun i => ?_)
  rw [Nat.zero_testBit]
  by_cases hi : i < 24
  · rw [Nat.testBit_eq_decide_div_mod_eq]
    exact decide_eq_false (fun z => q ⟨i, hi, z⟩)
  · exact Nat.testBit_lt_two_pow (Nat.lt_of_lt_of_le h (Nat.pow_le_pow_right (by decide) (by omega)))
theorem last_s {P : Nat → Prop} {N k : Nat} (hk : k < N) (hp : P k) : ∃ j, j < N ∧ P j ∧ ∀ i, i < N → P i → i ≤ j := by
  obtain ⟨j, j1, j2, j3⟩ := fst_s (P := fun i => P (N - 1 - i)) (N := N) (N - 1 - k) (by omega) (by show P (N - 1 - (N - 1 - k)); rw [show N - 1 - (N - 1 - k) = k by omega]; exact hp)
  refine ⟨N - 1 - j, by omega, j2, fun i hi hpi => ?_⟩
  by_cases q : i ≤ N - 1 - j
  · exact q
  · exact absurd (show P (N - 1 - (N - 1 - i)) by rw [show N - 1 - (N - 1 - i) = i by omega]; exact hpi) (j3 (N - 1 - i) (by omega))
theorem mK.pl (h : mK m I J) : ∃ w hh a cn, plM w hh a cn I J := by
  have y4 : ∃ k, k ≤ 64 ∧ m 4 = nI k := by
    have h1 := (h.2.2.1 4 (by decide)).1 0 0 4 (by decide) (by decide) (by decide) rfl
    unfold mbv at h1
    rw [show leastv 0 4 = 1 by decide, show mostv 0 4 = nI 64 by decide] at h1
    by_cases q1 : m 4 < 1
    · rw [if_pos q1] at h1; exact absurd h1 (by decide)
    rw [if_neg q1] at h1
    by_cases q2 : nI 64 < m 4
    · rw [if_pos q2] at h1; exact absurd h1 (by decide)
    have q3 : ¬ m 4 < 0 := fun z => q1 (Int32.lt_trans z (by decide))
    obtain ⟨j, j1, j2⟩ := nI_of q3
    rw [j2] at q2 ⊢
    refine ⟨j, ?_, rfl⟩
    by_cases q4 : 64 < j
    · exact absurd (nI_lt q4 j1) q2
    · omega
  have y5 : ∃ k, k ≤ 48 ∧ m 5 = nI k := by
    have h1 := (h.2.2.1 5 (by decide)).1 0 0 5 (by decide) (by decide) (by decide) rfl
    unfold mbv at h1
    rw [show leastv 0 5 = 1 by decide, show mostv 0 5 = nI 48 by decide] at h1
    by_cases q1 : m 5 < 1
    · rw [if_pos q1] at h1; exact absurd h1 (by decide)
    rw [if_neg q1] at h1
    by_cases q2 : nI 48 < m 5
    · rw [if_pos q2] at h1; exact absurd h1 (by decide)
    have q3 : ¬ m 5 < 0 := fun z => q1 (Int32.lt_trans z (by decide))
    obtain ⟨j, j1, j2⟩ := nI_of q3
    rw [j2] at q2 ⊢
    refine ⟨j, ?_, rfl⟩
    by_cases q4 : 48 < j
    · exact absurd (nI_lt q4 j1) q2
    · omega
  obtain ⟨w, w1, w2⟩ := y4
  obtain ⟨hh, v1, v2⟩ := y5
  have rows : ∀ k j, k < 8 → j < 12 → ∃ x, x ≤ 16777215 ∧ m (600 + k * 14 + j) = nI x := by
    intro k j hk hj
    have : j = 0 ∨ j = 1 ∨ j = 2 ∨ j = 3 ∨ j = 4 ∨ j = 5 ∨ j = 6 ∨ j = 7 ∨ j = 8 ∨ j = 9 ∨ j = 10 ∨ j = 11 := by omega
    refine h.nat 7 k j 16777215 (by decide) hk (show j < 14 by omega) (by show 600 + k * 14 + j < 1189; omega) ?_ ?_ (by decide)
    · rcases this with rfl | rfl | rfl | rfl | rfl | rfl | rfl | rfl | rfl | rfl | rfl | rfl <;> decide
    · rcases this with rfl | rfl | rfl | rfl | rfl | rfl | rfl | rfl | rfl | rfl | rfl | rfl <;> decide
  have cnt : ∀ k, k < 8 → ∃ x, x ≤ 4 ∧ m (600 + k * 14 + 12) = nI x := fun k hk => h.nat 7 k 12 4 (by decide) hk (by decide) (by show 600 + k * 14 + 12 < 1189; omega) (by decide) (by decide) (by decide)
  refine ⟨w, hh, fun k j => (m (600 + k * 14 + j)).toNatClampNeg, fun k => (m (600 + k * 14 + 12)).toNatClampNeg, w1, v1, by rw [h.1 4 (by decide), w2], by rw [h.1 5 (by decide), v2], by rw [h.2.1 4 (by decide), w2], by rw [h.2.1 5 (by decide), v2], fun k hk j hj => ?_, fun k hk => ?_, fun k hk => ?_, fun k hk hc => ?_⟩
  · obtain ⟨x, x1, x2⟩ := rows k j hk hj
    dsimp only
    rw [h.1 _ (by omega), h.2.1 _ (by omega), x2, nI_clamp (by omega)]
    exact ⟨by omega, rfl, rfl⟩
  · obtain ⟨x, x1, x2⟩ := cnt k hk
    dsimp only
    rw [h.1 _ (by omega), h.2.1 _ (by omega), x2, nI_clamp (by omega)]
    exact ⟨x1, rfl, rfl⟩
  · rw [h.1 _ (by omega), h.2.1 _ (by omega)]
  · obtain ⟨c, c1, c2⟩ := cnt k hk
    dsimp only at hc
    have hr := (h.2.2.2.2 k hk).resolve_left (fun z => by
      rw [show 612 + k * 14 = 600 + k * 14 + 12 by omega, c2] at z
      rw [c2, nI_clamp (by omega)] at hc
      exact nI_ne0 hc (by omega) z)
    obtain ⟨r1, j0, j1, j2⟩ := hr
    have val : ∀ j, j < 12 → m (600 + k * 14 + j) = nI (m (600 + k * 14 + j)).toNatClampNeg ∧ (m (600 + k * 14 + j)).toNatClampNeg < 2 ^ 24 := by
      intro j hj
      obtain ⟨x, x1, x2⟩ := rows k j hk hj
      rw [x2, nI_clamp (by omega)]
      exact ⟨rfl, by omega⟩
    obtain ⟨e0, l0⟩ := val 0 (by decide)
    obtain ⟨ej, lj⟩ := val j0 j1
    have a0 : (m (600 + k * 14 + 0)).toNatClampNeg ≠ 0 := fun z => r1 (by rw [show 600 + k * 14 = 600 + k * 14 + 0 from rfl, e0, z]; rfl)
    obtain ⟨i0, i1, i2⟩ := bits_some l0 a0
    have p0 : plV (fun j => nI (m (600 + k * 14 + j)).toNatClampNeg) i0 0 := ⟨i1, by decide, (ibit_nI (by omega) (by omega)).mpr i2⟩
    have pj : plV (fun j => nI (m (600 + k * 14 + j)).toNatClampNeg) 0 j0 := ⟨by decide, j1, by
      show ibit 0 (nI (m (600 + k * 14 + j0)).toNatClampNeg)
      rw [← ej]
      exact j2⟩
    refine ⟨?_, ?_⟩
    · refine Nat.lt_of_lt_of_le ?_ (smN_one (fun j => popN (m (600 + k * 14 + j)).toNatClampNeg) 12 0 (by decide))
      show 0 < popN (m (600 + k * 14 + 0)).toNatClampNeg
      refine Nat.lt_of_lt_of_le ?_ (smN_one (fun u => (m (600 + k * 14 + 0)).toNatClampNeg / 2 ^ u % 2) 24 i0 i1)
      show 0 < (m (600 + k * 14 + 0)).toNatClampNeg / 2 ^ i0 % 2
      rw [i2]
      decide
    · obtain ⟨W, W1, W2, W3⟩ := last_s (P := fun i => ∃ j, plV (fun j => nI (m (600 + k * 14 + j)).toNatClampNeg) i j) (N := 24) i1 ⟨0, p0⟩
      obtain ⟨H, H1, H2, H3⟩ := last_s (P := fun j => ∃ i, plV (fun j => nI (m (600 + k * 14 + j)).toNatClampNeg) i j) (N := 12) j1 ⟨0, pj⟩
      exact ⟨W, H, W1, H1, fun i j hij => ⟨W3 i hij.1 ⟨j, hij⟩, H3 j hij.2.1 ⟨i, hij⟩⟩, W2, H2, ⟨j0, pj⟩, ⟨i0, p0⟩⟩
/-- nest(g), any g -/
theorem nest_call (h : mK m I J) (h0 : I 0 11 = J 0 18) (x : Int32) : (∃ v, jv (d + 4) 203 0 [some (.ref 0), some (.int x)] [] (shC, I, L, pX pa pb pu pw) = some (some (.int v), (shC, I, L, pX pa pb pu pw)) ∧ jv (e + 4) 334 0 [some (.ref 0), some (.int x), none] [] (shR, J, L', pR) = some (some (.int v), (shR, J, L', pR))) ∨ ∃ v I' J' L1, nestFr I I' J J' L L1 ∧ I' 83 0 = 1 ∧ J' 0 87 = 1 ∧ pieceRel I' J' ∧ sheetRel I' J' ∧ jv (d + 4) 203 0 [some (.ref 0), some (.int x)] [] (shC, I, L, pX pa pb pu pw) = some (some (.int v), (shC, I', L1, pX pa pb pu pw)) ∧ jv (e + 4) 334 0 [some (.ref 0), some (.int x), none] [] (shR, J, L', pR) = some (some (.int v), (shR, J', L', pR)) := by
  by_cases q1 : x < 0
  · exact Or.inl ⟨-1, by rw [B203_0, if_pos q1, B203_9], by rw [B334_0, if_pos q1, B334_9]⟩
  by_cases q2 : 3 < x
  · exact Or.inl ⟨-1, by rw [B203_0, if_neg q1, if_pos q2, B203_9], by rw [B334_0, if_neg q1, if_pos q2, B334_9]⟩
  by_cases q3 : I 0 11 = 0
  · obtain ⟨g, g1, rfl⟩ := nI_of q1
    have hg : g < 4 := by
      by_cases q : 3 < g
      · exact absurd (show (3 : Int32) < nI g from nI_lt (a := 3) q g1) q2
      · omega
    obtain ⟨w, hh, a, cn, hM⟩ := h.pl
    obtain ⟨v, I', J', L1, a1, a2, a3, a4, a5, a6, a7⟩ := nest_go (d := d) (e := e) (L := L) (L' := L') (pa := pa) (pb := pb) (pu := pu) (pw := pw) hM h.2.2.2.1 hg q3 (by rw [← h0]; exact q3)
    exact Or.inr ⟨nI v, I', J', L1, a1, a2, a3, a4, a5, a6, a7⟩
  · exact Or.inl ⟨-3, by rw [B203_0, if_neg q1, if_neg q2, if_neg q3], by rw [B334_0, if_neg q1, if_neg q2, if_neg (by rw [← h0]; exact q3)]⟩
/-- lead() -/
theorem lead_call (h : mK m I J) (h0 : I 0 11 = J 0 18) : (∃ v, jv (d + 5) 208 0 [some (.ref 0)] [] (shC, I, L, pX pa pb pu pw) = some (some (.int v), (shC, I, L, pX pa pb pu pw)) ∧ jv (e + 4) 348 0 [some (.ref 0), none] [] (shR, J, L', pR) = some (some (.int v), (shR, J, L', pR))) ∨ ∃ v I' J', (∀ c, (c < 96 ∨ 106 < c) → c ≠ 116 → I' c = I c) ∧ (∀ f, I' 116 f = if f = 10 then 0 else I 116 f) ∧ I' 96 0 = 1 ∧ (∀ c, c ≠ 0 → (c < 62 ∨ 71 < c) → J' c = J c) ∧ (∀ g, g ≠ 107 → g ≠ 108 → g ≠ 119 → J' 0 g = J 0 g) ∧ J' 0 107 = 1 ∧ wayRel I' J' ∧ jv (d + 5) 208 0 [some (.ref 0)] [] (shC, I, L, pX pa pb pu pw) = some (some (.int v), (shC, I', L, pX pa pb pu pw)) ∧ jv (e + 4) 348 0 [some (.ref 0), none] [] (shR, J, L', pR) = some (some (.int v), (shR, J', L', pR)) ∧ I' 96 1 = v ∧ J' 0 108 = v := by
  by_cases q3 : I 0 11 = 0
  · have sol : ∀ i j, i < 12 → j < 7 → ∃ x, x ≤ (if j = 0 then 1 else if j < 3 then 19 else if j < 5 then 9 else 7) ∧ m (712 + i * 7 + j) = nI x := by
      intro i j hi hj
      have : j = 0 ∨ j = 1 ∨ j = 2 ∨ j = 3 ∨ j = 4 ∨ j = 5 ∨ j = 6 := by omega
      refine h.nat 8 i j _ (by decide) hi hj (by show 712 + i * 7 + j < 1189; omega) ?_ ?_ ?_
      · rcases this with rfl | rfl | rfl | rfl | rfl | rfl | rfl <;> decide
      · rcases this with rfl | rfl | rfl | rfl | rfl | rfl | rfl <;> decide
      · rcases this with rfl | rfl | rfl | rfl | rfl | rfl | rfl <;> decide
    have pip : ∀ i j, i < 6 → j < 8 → ∃ x, x ≤ (if j = 0 then 1 else if j = 1 then 19 else if j = 2 then 9 else if j = 3 then 7 else if j = 4 then 19 else if j = 5 then 9 else if j = 6 then 7 else 1) ∧ m (796 + i * 8 + j) = nI x := by
      intro i j hi hj
      have : j = 0 ∨ j = 1 ∨ j = 2 ∨ j = 3 ∨ j = 4 ∨ j = 5 ∨ j = 6 ∨ j = 7 := by omega
      refine h.nat 9 i j _ (by decide) hi hj (by show 796 + i * 8 + j < 1189; omega) ?_ ?_ ?_
      · rcases this with rfl | rfl | rfl | rfl | rfl | rfl | rfl | rfl <;> decide
      · rcases this with rfl | rfl | rfl | rfl | rfl | rfl | rfl | rfl <;> decide
      · rcases this with rfl | rfl | rfl | rfl | rfl | rfl | rfl | rfl <;> decide
    have sv1 : ∀ i j, i < 12 → j < 7 → m (712 + i * 7 + j) = nI (m (712 + i * 7 + j)).toNatClampNeg ∧ (m (712 + i * 7 + j)).toNatClampNeg ≤ (if j = 0 then 1 else if j < 3 then 19 else if j < 5 then 9 else 7) := by
      intro i j hi hj
      obtain ⟨x, x1, x2⟩ := sol i j hi hj
      have xb : x < 2 ^ 31 := by
        refine Nat.lt_of_le_of_lt x1 ?_
        repeat' split
        all_goals decide
      rw [x2, nI_clamp xb]
      exact ⟨rfl, x1⟩
    have pv1 : ∀ i j, i < 6 → j < 8 → m (796 + i * 8 + j) = nI (m (796 + i * 8 + j)).toNatClampNeg ∧ (m (796 + i * 8 + j)).toNatClampNeg ≤ (if j = 0 then 1 else if j = 1 then 19 else if j = 2 then 9 else if j = 3 then 7 else if j = 4 then 19 else if j = 5 then 9 else if j = 6 then 7 else 1) := by
      intro i j hi hj
      obtain ⟨x, x1, x2⟩ := pip i j hi hj
      have xb : x < 2 ^ 31 := by
        refine Nat.lt_of_le_of_lt x1 ?_
        repeat' split
        all_goals decide
      rw [x2, nI_clamp xb]
      exact ⟨rfl, x1⟩
    obtain ⟨v, I', J', a1, a2, a3, a4, a5, a6, a7, a8, a9, a10, a11, -⟩ := lead_go (d := d) (e := e) (L := L) (L' := L') (pa := pa) (pb := pb) (pu := pu) (pw := pw) (I := I) (J := J) (sv := fun i j => (m (712 + i * 7 + j)).toNatClampNeg) (pv := fun i j => (m (796 + i * 8 + j)).toNatClampNeg)
      (fun i hi => ⟨Nat.lt_succ_of_le (sv1 i 0 hi (by decide)).2, Nat.lt_succ_of_le (sv1 i 1 hi (by decide)).2, Nat.lt_succ_of_le (sv1 i 2 hi (by decide)).2, Nat.lt_succ_of_le (sv1 i 3 hi (by decide)).2, Nat.lt_succ_of_le (sv1 i 4 hi (by decide)).2, Nat.lt_succ_of_le (sv1 i 5 hi (by decide)).2, Nat.lt_succ_of_le (sv1 i 6 hi (by decide)).2⟩)
      (fun i hi => ⟨Nat.lt_succ_of_le (pv1 i 0 hi (by decide)).2, Nat.lt_succ_of_le (pv1 i 1 hi (by decide)).2, Nat.lt_succ_of_le (pv1 i 2 hi (by decide)).2, Nat.lt_succ_of_le (pv1 i 3 hi (by decide)).2, Nat.lt_succ_of_le (pv1 i 4 hi (by decide)).2, Nat.lt_succ_of_le (pv1 i 5 hi (by decide)).2, Nat.lt_succ_of_le (pv1 i 6 hi (by decide)).2, Nat.lt_succ_of_le (pv1 i 7 hi (by decide)).2⟩)
      (fun i hi j hj => by rw [show 712 + j + i * 7 = 712 + i * 7 + j by omega, h.1 _ (by omega)]; exact (sv1 i j hi hj).1)
      (fun i hi j hj => by rw [show 712 + j + i * 7 = 712 + i * 7 + j by omega, h.2.1 _ (by omega)]; exact (sv1 i j hi hj).1)
      (fun i hi j hj => by rw [show 796 + j + i * 8 = 796 + i * 8 + j by omega, h.1 _ (by omega)]; exact (pv1 i j hi hj).1)
      (fun i hi j hj => by rw [show 796 + j + i * 8 = 796 + i * 8 + j by omega, h.2.1 _ (by omega)]; exact (pv1 i j hi hj).1)
      h.2.2.2.1 q3 (by rw [← h0]; exact q3)
    exact Or.inr ⟨nI v, I', J', a1, a2, a3, a4, a5, a6, a7, a8, a9, a10, a11⟩
  · exact Or.inl ⟨-3, by rw [B208_0, if_neg q3], by rw [B348_0, if_neg (by rw [← h0]; exact q3)]⟩
end KEPT
