/-! SEA: measuring all blocks, first one -/
section SEAF
variable {d : Nat} {I : Nat → Nat → Int32} {L : Nat → Nat → Int64} {pa pb pu pw : Option Nat} {lo hi : Nat → Int} {sF sT cF cT : Nat → Nat} {fl rf bt : Nat → Int}
def meL (L : Nat → Nat → Int64) (A R : Int) : Nat → Nat → Int64 := j_up (j_up L 72 10 (lI A)) 72 11 (lI R)
theorem meL_10 (A R : Int) : meL L A R 72 10 = lI A := by unfold meL; rw [j_up_own, if_neg (by decide), j_up_own, if_pos rfl]
theorem meL_11 (A R : Int) : meL L A R 72 11 = lI R := by unfold meL; rw [j_up_own, if_pos rfl]
theorem meL_c (A R : Int) {c : Nat} (h : c ≠ 72) : meL L A R c = L c := by unfold meL; rw [j_up_cell _ h, j_up_cell _ h]
theorem meL_own (A R : Int) (j : Nat) : meL L A R 72 j = if j = 11 then lI R else if j = 10 then lI A else L 72 j := by unfold meL; rw [j_up_own, j_up_own]
theorem meL_meL (A R A' R' : Int) : meL (meL L A R) A' R' = meL L A' R' := by
  funext c j
  by_cases h : c = 72
  · subst h
    rw [meL_own, meL_own, meL_own]
    by_cases h1 : j = 11
    · rw [if_pos h1, if_pos h1]
    · by_cases h2 : j = 10
      · rw [if_neg h1, if_pos h2, if_neg h1, if_pos h2]
      · rw [if_neg h1, if_neg h2, if_neg h1, if_neg h2, if_neg h1, if_neg h2]
  · rw [meL_c _ _ h, meL_c _ _ h, meL_c _ _ h]
def mA (lo hi : Nat → Int) (sF sT cF cT : Nat → Nat) (fl rf : Nat → Int) (a b c : Int) (q : Nat) : Int := sZ (cA lo hi (fl q) (rf q) (cF q) (cT q + 1 - cF q) a b c) (sF q) (sT q + 1 - sF q)
def mR (lo hi : Nat → Int) (sF sT cF cT : Nat → Nat) (fl rf : Nat → Int) (a b c : Int) (q : Nat) : Int := sZ (cR lo hi (fl q) (rf q) (cF q) (cT q + 1 - cF q) a b c) (sF q) (sT q + 1 - sF q)
def wMA (sb : Nat → Bool) (lo hi : Nat → Int) (sF sT cF cT : Nat → Nat) (fl rf bt : Nat → Int) (a b c : Int) (n : Nat) : Int := sZ (fun q => if sb q = true then mA lo hi sF sT cF cT fl rf a b c q * bt q else 0) 0 n
def wMR (sb : Nat → Bool) (lo hi : Nat → Int) (sF sT cF cT : Nat → Nat) (fl rf bt : Nat → Int) (a b c : Int) (n : Nat) : Int := sZ (fun q => if sb q = true then mR lo hi sF sT cF cT fl rf a b c q * bt q else 0) 0 n
theorem sZ_b {f : Nat → Int} {a : Nat} {m : Int} (h : ∀ i, 0 ≤ f i ∧ f i ≤ m) : ∀ n : Nat, 0 ≤ sZ f a n ∧ sZ f a n ≤ m * n := by
  intro n
  induction n with
  | zero => exact ⟨Int.le_refl _, by show (0 : Int) ≤ m * 0; omega⟩
  | succ n ih =>
    have := h (a + n)
    have e : m * ((n + 1 : Nat) : Int) = m * n + m := by rw [show ((n + 1 : Nat) : Int) = (n : Int) + 1 by omega, Int.mul_add, Int.mul_one]
    exact ⟨by show 0 ≤ sZ f a n + f (a + n); omega, by show sZ f a n + f (a + n) ≤ _; omega⟩
theorem cR_b (fl rf : Int) (f n : Nat) (hn : n ≤ 16) (a b c : Int) (s : Nat) : 0 ≤ cR lo hi fl rf f n a b c s ∧ cR lo hi fl rf f n a b c s ≤ 16 := by
  have := sZ_b (f := fun k => wR (wL (lo (16 * s + k)) fl) (wV (hi (16 * s + k)) rf) (plY a b c s k)) (a := f) (m := 1) (fun i => by unfold wR; split; omega; split <;> omega) n
  unfold cR
  omega
theorem measure_c (hD : hlD I lo hi sF sT cF cT fl rf bt) {a b c : Int} (ha : -200001 ≤ a ∧ a ≤ 200001) (hb : -2048 ≤ b ∧ b ≤ 2048) (hc : -2048 ≤ c ∧ c ≤ 2048) {l1 : Int32} {sb : Nat → Bool} (hset : ∀ q, q < 17 → (((l1 >>> (nI q &&& 31)) &&& 1) = 0 ↔ sb q = false)) : jv d 35 0 [some (.ref 72), some (.int l1), some (.int (vI a)), some (.int (vI b)), some (.int (vI c)), none, none, none, none, none, none, none, none, none, none, none, none, none, none, none] [] (shC, I, L, pX pa pb pu pw) = some (none, (shC, I, meL L (wMA sb lo hi sF sT cF cT fl rf bt a b c 17) (wMR sb lo hi sF sT cF cT fl rf bt a b c 17), pX pa pb pu pw)) := by
  -- one slice
  have row : ∀ q, q < 17 → ∀ s, s < 16 → s ≤ sT q → ∀ (x y A R : Int) (o16 o17 o18 o19 : Option Value), ∃ p16 p17 p18 p19, jv d 35 95 [some (.ref 72), some (.int l1), some (.int (vI a)), some (.int (vI b)), some (.int (vI c)), some (.ref 73), some (.ref 74), some (.int (nI q)), some (.int (vI (fl q))), some (.int (vI (rf q))), some (.int (nI (cF q))), some (.int (nI (cT q))), some (.long (lI x)), none, some (.int (vI y)), some (.int (nI s)), o16, o17, o18, o19] [] (shC, I, meL L A R, pX pa pb pu pw) = jv d 35 95 [some (.ref 72), some (.int l1), some (.int (vI a)), some (.int (vI b)), some (.int (vI c)), some (.ref 73), some (.ref 74), some (.int (nI q)), some (.int (vI (fl q))), some (.int (vI (rf q))), some (.int (nI (cF q))), some (.int (nI (cT q))), some (.long (lI (x + cA lo hi (fl q) (rf q) (cF q) (cT q + 1 - cF q) a b c s))), none, some (.int (vI (y + cR lo hi (fl q) (rf q) (cF q) (cT q + 1 - cF q) a b c s))), some (.int (nI (s + 1))), p16, p17, p18, p19] [] (shC, I, meL L A R, pX pa pb pu pw) := by
    intro q hq s hs hsT x y A R o16 o17 o18 o19
    obtain ⟨d1, d2, d3, d4, d5, d6, d7, d8, _⟩ := hD.2 q hq
    have jq : j_in (nI q) 17 = true := j_in_nI hq (by decide)
    have cq : (nI q).toNatClampNeg = q := nI_clamp (by omega)
    have cols : ∀ n : Nat, n ≤ cT q + 1 - cF q → ∃ p18 p19, jv d 35 141 [some (.ref 72), some (.int l1), some (.int (vI a)), some (.int (vI b)), some (.int (vI c)), some (.ref 73), some (.ref 74), some (.int (nI q)), some (.int (vI (fl q))), some (.int (vI (rf q))), some (.int (nI (cF q))), some (.int (nI (cT q))), some (.long (lI x)), none, some (.int (vI y)), some (.int (nI s)), some (.int (vI (plY a b c s (cF q)))), some (.int (nI (16 * s + cF q))), o18, o19] [] (shC, I, meL L A R, pX pa pb pu pw) = jv d 35 141 [some (.ref 72), some (.int l1), some (.int (vI a)), some (.int (vI b)), some (.int (vI c)), some (.ref 73), some (.ref 74), some (.int (nI q)), some (.int (vI (fl q))), some (.int (vI (rf q))), some (.int (nI (cF q))), some (.int (nI (cT q))), some (.long (lI (x + cA lo hi (fl q) (rf q) (cF q) n a b c s))), none, some (.int (vI (y + cR lo hi (fl q) (rf q) (cF q) n a b c s))), some (.int (nI s)), some (.int (vI (plY a b c s (cF q + n)))), some (.int (nI (16 * s + (cF q + n)))), p18, p19] [] (shC, I, meL L A R, pX pa pb pu pw) := by
      intro n
      induction n with
      | zero =>
        intro _
        refine ⟨o18, o19, ?_⟩
        rw [show cA lo hi (fl q) (rf q) (cF q) 0 a b c s = 0 from rfl, show cR lo hi (fl q) (rf q) (cF q) 0 a b c s = 0 from rfl, Int.add_zero, Int.add_zero, Nat.add_zero]
      | succ n ih =>
        intro hn
        obtain ⟨p18, p19, e⟩ := ih (by omega)
        obtain ⟨r18, r19, e'⟩ := mcol_1 (d := d) (L := meL L A R) (pa := pa) (pb := pb) (pu := pu) (pw := pw) hD ha hb hc hs (show cF q + n ≤ cT q by omega) hq l1 (nI (cF q)) (x + cA lo hi (fl q) (rf q) (cF q) n a b c s) (y + cR lo hi (fl q) (rf q) (cF q) n a b c s) p18 p19
        refine ⟨r18, r19, e.trans (e'.trans ?_)⟩
        rw [Int.add_assoc, Int.add_assoc]
        rfl
    obtain ⟨p18, p19, e⟩ := cols _ (Nat.le_refl _)
    refine ⟨some (.int (vI (plY a b c s (cF q + (cT q + 1 - cF q))))), some (.int (nI (16 * s + (cF q + (cT q + 1 - cF q))))), p18, p19, ?_⟩
    rw [B35_95, if_pos jq, cq, d2, if_neg (nI_nlt (by omega) (by omega)), plY_v, show (16 : Int32) * nI s + nI (cF q) = nI (16 * s + cF q) by rw [show (16 : Int32) = nI 16 from rfl, nI_mul, nI_add]]
    refine e.trans ?_
    rw [B35_141, show (16 : Int32) * nI s + nI (cT q) = nI (16 * s + cT q) by rw [show (16 : Int32) = nI 16 from rfl, nI_mul, nI_add], if_pos (nI_lt (by omega) (by omega)), show nI s + 1 = nI (s + 1) from nI_add s 1]
  -- one block
  have blk : ∀ q, q < 17 → ∀ (A R : Int) (o16 o17 o18 o19 : Option Value) (n : Nat), n ≤ sT q + 1 - sF q → ∃ p16 p17 p18 p19, jv d 35 95 [some (.ref 72), some (.int l1), some (.int (vI a)), some (.int (vI b)), some (.int (vI c)), some (.ref 73), some (.ref 74), some (.int (nI q)), some (.int (vI (fl q))), some (.int (vI (rf q))), some (.int (nI (cF q))), some (.int (nI (cT q))), some (.long 0), none, some (.int 0), some (.int (nI (sF q))), o16, o17, o18, o19] [] (shC, I, meL L A R, pX pa pb pu pw) = jv d 35 95 [some (.ref 72), some (.int l1), some (.int (vI a)), some (.int (vI b)), some (.int (vI c)), some (.ref 73), some (.ref 74), some (.int (nI q)), some (.int (vI (fl q))), some (.int (vI (rf q))), some (.int (nI (cF q))), some (.int (nI (cT q))), some (.long (lI (sZ (cA lo hi (fl q) (rf q) (cF q) (cT q + 1 - cF q) a b c) (sF q) n))), none, some (.int (vI (sZ (cR lo hi (fl q) (rf q) (cF q) (cT q + 1 - cF q) a b c) (sF q) n))), some (.int (nI (sF q + n))), p16, p17, p18, p19] [] (shC, I, meL L A R, pX pa pb pu pw) := by
    intro q hq A R o16 o17 o18 o19 n
    obtain ⟨d1, d2, d3, d4, d5, d6, d7, d8, _⟩ := hD.2 q hq
    induction n with
    | zero => intro _; exact ⟨o16, o17, o18, o19, rfl⟩
    | succ n ih =>
      intro hn
      obtain ⟨p16, p17, p18, p19, e⟩ := ih (by omega)
      obtain ⟨r16, r17, r18, r19, e'⟩ := row q hq (sF q + n) (by omega) (by omega) (sZ (cA lo hi (fl q) (rf q) (cF q) (cT q + 1 - cF q) a b c) (sF q) n) (sZ (cR lo hi (fl q) (rf q) (cF q) (cT q + 1 - cF q) a b c) (sF q) n) A R p16 p17 p18 p19
      exact ⟨r16, r17, r18, r19, e.trans e'⟩
  -- all blocks
  have all : ∀ r q (o8 o9 o10 o11 o12 o13 o14 o15 o16 o17 o18 o19 : Option Value), q + r = 17 → jv d 35 25 [some (.ref 72), some (.int l1), some (.int (vI a)), some (.int (vI b)), some (.int (vI c)), some (.ref 73), some (.ref 74), some (.int (nI q)), o8, o9, o10, o11, o12, o13, o14, o15, o16, o17, o18, o19] [] (shC, I, meL L (wMA sb lo hi sF sT cF cT fl rf bt a b c q) (wMR sb lo hi sF sT cF cT fl rf bt a b c q), pX pa pb pu pw) = some (none, (shC, I, meL L (wMA sb lo hi sF sT cF cT fl rf bt a b c 17) (wMR sb lo hi sF sT cF cT fl rf bt a b c 17), pX pa pb pu pw)) := by
    intro r
    induction r with
    | zero =>
      intro q o8 o9 o10 o11 o12 o13 o14 o15 o16 o17 o18 o19 hq
      obtain rfl : q = 17 := by omega
      rw [B35_25, if_neg (show ¬ nI 17 < (17 : Int32) by decide)]
    | succ r ih =>
      intro q o8 o9 o10 o11 o12 o13 o14 o15 o16 o17 o18 o19 hr
      have hq : q < 17 := by omega
      obtain ⟨d1, d2, d3, d4, d5, d6, d7, d8, d9, d10, d11, d12, d13, d14, d15, d16, d17⟩ := hD.2 q hq
      have jq : j_in (nI q) 17 = true := j_in_nI hq (by decide)
      have cq : (nI q).toNatClampNeg = q := nI_clamp (by omega)
      have wS : wMA sb lo hi sF sT cF cT fl rf bt a b c (q + 1) = wMA sb lo hi sF sT cF cT fl rf bt a b c q + (if sb q = true then mA lo hi sF sT cF cT fl rf a b c q * bt q else 0) ∧ wMR sb lo hi sF sT cF cT fl rf bt a b c (q + 1) = wMR sb lo hi sF sT cF cT fl rf bt a b c q + (if sb q = true then mR lo hi sF sT cF cT fl rf a b c q * bt q else 0) := by
        constructor
        · unfold wMA
          show sZ _ 0 q + (if sb (0 + q) = true then mA lo hi sF sT cF cT fl rf a b c (0 + q) * bt (0 + q) else 0) = _
          rw [Nat.zero_add]
        · unfold wMR
          show sZ _ 0 q + (if sb (0 + q) = true then mR lo hi sF sT cF cT fl rf a b c (0 + q) * bt (0 + q) else 0) = _
          rw [Nat.zero_add]
      have nx := ih (q + 1)
      rw [wS.1, wS.2] at nx
      rw [B35_25, if_pos (show nI q < (17 : Int32) from nI_lt (b := 17) hq (by decide))]
      cases hsb : sb q with
      | false =>
        rw [if_pos ((hset q hq).mpr hsb), B35_311, show nI q + 1 = nI (q + 1) from nI_add q 1]
        simp only [hsb, Bool.false_eq_true, ↓reduceIte, Int.add_zero] at nx
        exact nx _ _ _ _ _ _ _ _ _ _ _ _ (by omega)
      | true =>
        simp only [hsb, ↓reduceIte] at nx
        rw [if_neg (fun y => by rw [(hset q hq).mp y] at hsb; exact absurd hsb (by decide)), if_pos jq, if_pos jq, if_pos jq, if_pos jq, if_pos jq, cq, d9, d12, d3, d4, d1]
        obtain ⟨p16, p17, p18, p19, e⟩ := blk q hq (wMA sb lo hi sF sT cF cT fl rf bt a b c q) (wMR sb lo hi sF sT cF cT fl rf bt a b c q) o16 o17 o18 o19 _ (Nat.le_refl _)
        refine e.trans ?_
        have rb : 0 ≤ mR lo hi sF sT cF cT fl rf a b c q ∧ mR lo hi sF sT cF cT fl rf a b c q ≤ 16 * ((sT q + 1 - sF q : Nat) : Int) := sZ_b (fun s => cR_b _ _ _ _ (by omega) _ _ _ _) _
        have r64 : (vI (mR lo hi sF sT cF cT fl rf a b c q)).toInt64 = lI (mR lo hi sF sT cF cT fl rf a b c q) := vI_64 (by omega) (by omega)
        have b64 : (vI (bt q)).toInt64 = lI (bt q) := vI_64 (by omega) (by omega)
        rw [B35_95, if_pos jq, cq, d2, if_pos (nI_lt (by omega) (by omega)), if_pos jq, if_pos jq, d15, b64]
        have fold : sZ (cR lo hi (fl q) (rf q) (cF q) (cT q + 1 - cF q) a b c) (sF q) (sT q + 1 - sF q) = mR lo hi sF sT cF cT fl rf a b c q := rfl
        have foldA : sZ (cA lo hi (fl q) (rf q) (cF q) (cT q + 1 - cF q) a b c) (sF q) (sT q + 1 - sF q) = mA lo hi sF sT cF cT fl rf a b c q := rfl
        rw [fold, foldA, r64]
        generalize mR lo hi sF sT cF cT fl rf a b c q = u at nx ⊢
        generalize mA lo hi sF sT cF cT fl rf a b c q = v at nx ⊢
        generalize wMA sb lo hi sF sT cF cT fl rf bt a b c q = A at nx ⊢
        generalize wMR sb lo hi sF sT cF cT fl rf bt a b c q = R at nx ⊢
        have big : j_up (j_up (meL L A R) 72 10 ((meL L A R 72 10) + (lI v * lI (bt q)))) 72 11 (((j_up (meL L A R) 72 10 ((meL L A R 72 10) + (lI v * lI (bt q)))) 72 11) + (lI u * lI (bt q))) = meL L (A + v * bt q) (R + u * bt q) := by
          rw [j_up_own, if_neg (by decide), meL_10, meL_11, lI_mul, lI_mul, lI_add, lI_add]
          exact meL_meL _ _ _ _
        rw [big, B35_311, show nI q + 1 = nI (q + 1) from nI_add q 1]
        exact nx _ _ _ _ _ _ _ _ _ _ _ _ (by omega)
  rw [B35_0]
  exact all 17 0 none none none none none none none none none none none none rfl
end SEAF
