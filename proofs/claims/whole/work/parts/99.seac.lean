/-! SEA: what a set of blocks weighs, first one -/
section SEAC
variable {d : Nat} {I : Nat → Nat → Int32} {L : Nat → Nat → Int64} {pa pb pu pw : Option Nat} {lo hi : Nat → Int} {sF sT cF cT : Nat → Nat} {fl rf bt : Nat → Int}
/-- the sums so far -/
def hmL (L : Nat → Nat → Int64) (A X Y Z : Int) : Nat → Nat → Int64 := j_up (j_up (j_up (j_up L 72 10 (lI A)) 72 12 (lI X)) 72 13 (lI Y)) 72 14 (lI Z)
theorem hmL_c (A X Y Z : Int) {c : Nat} (h : c ≠ 72) : hmL L A X Y Z c = L c := by unfold hmL; rw [j_up_cell _ h, j_up_cell _ h, j_up_cell _ h, j_up_cell _ h]
theorem hmL_own (A X Y Z : Int) (j : Nat) : hmL L A X Y Z 72 j = if j = 14 then lI Z else if j = 13 then lI Y else if j = 12 then lI X else if j = 10 then lI A else L 72 j := by unfold hmL; rw [j_up_own, j_up_own, j_up_own, j_up_own]
theorem hmL_hmL (A X Y Z A' X' Y' Z' : Int) : hmL (hmL L A X Y Z) A' X' Y' Z' = hmL L A' X' Y' Z' := by
  funext c j
  by_cases h : c = 72
  · subst h
    rw [hmL_own, hmL_own, hmL_own]
    by_cases h1 : j = 14
    · rw [if_pos h1, if_pos h1]
    · by_cases h2 : j = 13
      · rw [if_neg h1, if_pos h2, if_neg h1, if_pos h2]
      · by_cases h3 : j = 12
        · rw [if_neg h1, if_neg h2, if_pos h3, if_neg h1, if_neg h2, if_pos h3]
        · by_cases h4 : j = 10
          · rw [if_neg h1, if_neg h2, if_neg h3, if_pos h4, if_neg h1, if_neg h2, if_neg h3, if_pos h4]
          · rw [if_neg h1, if_neg h2, if_neg h3, if_neg h4, if_neg h1, if_neg h2, if_neg h3, if_neg h4, if_neg h1, if_neg h2, if_neg h3, if_neg h4]
  · rw [hmL_c _ _ _ _ h, hmL_c _ _ _ _ h, hmL_c _ _ _ _ h]
/-- a slice of a block -/
def cQ (lo hi : Nat → Int) (fl rf : Int) (a b c : Int) (s k : Nat) : Int × Int := (wL (lo (16 * s + k)) fl, wU (hi (16 * s + k)) rf (plY a b c s k))
def cA (lo hi : Nat → Int) (fl rf : Int) (f n : Nat) (a b c : Int) (s : Nat) : Int := sZ (fun k => wP (cQ lo hi fl rf a b c s k).1 (cQ lo hi fl rf a b c s k).2) f n
def cY (lo hi : Nat → Int) (fl rf : Int) (f n : Nat) (a b c : Int) (s : Nat) : Int := sZ (fun k => wP (cQ lo hi fl rf a b c s k).1 (cQ lo hi fl rf a b c s k).2 * (2 * k - 15)) f n
def cZ (lo hi : Nat → Int) (fl rf : Int) (f n : Nat) (a b c : Int) (s : Nat) : Int := sZ (fun k => wM (cQ lo hi fl rf a b c s k).1 (cQ lo hi fl rf a b c s k).2) f n
theorem wrow_c (hD : hlD I lo hi sF sT cF cT fl rf bt) {a b c : Int} {s q : Nat} (ha : -200001 ≤ a ∧ a ≤ 200001) (hb : -2048 ≤ b ∧ b ≤ 2048) (hc : -2048 ≤ c ∧ c ≤ 2048) (hs : s < 16) (hq : q < 17) (l1 l2 l3 l8 : Int32) (A X Y Z : Int) (o10 o11 o12 o13 o14 o15 o16 o17 o18 o19 o20 o21 o22 : Option Value) (s1 : s ≤ sT q) {t1 : Nat} (h3 : l3 = nI t1) (t16 : t1 < 16) (st : s ≤ t1) : ∃ p10 p12 p14 p16 p17 p18 p19 p20 p21 p22, jv d 36 70 [some (.ref 72), some (.int l1), some (.int l2), some (.int l3), some (.int (vI a)), some (.int (vI b)), some (.int (vI c)), some (.int (nI q)), some (.int l8), some (.int (nI s)), o10, o11, o12, o13, o14, o15, o16, o17, o18, o19, o20, o21, o22] [] (shC, I, hmL L A X Y Z, pX pa pb pu pw) = jv d 36 70 [some (.ref 72), some (.int l1), some (.int l2), some (.int l3), some (.int (vI a)), some (.int (vI b)), some (.int (vI c)), some (.int (nI q)), some (.int l8), some (.int (nI (s + 1))), p10, none, p12, none, p14, none, p16, p17, p18, p19, p20, p21, p22] [] (shC, I, hmL L (A + cA lo hi (fl q) (rf q) (cF q) (cT q + 1 - cF q) a b c s * bt q) (X + cA lo hi (fl q) (rf q) (cF q) (cT q + 1 - cF q) a b c s * bt q * (2 * s - 15)) (Y + cY lo hi (fl q) (rf q) (cF q) (cT q + 1 - cF q) a b c s * bt q) (Z + cZ lo hi (fl q) (rf q) (cF q) (cT q + 1 - cF q) a b c s * bt q), pX pa pb pu pw) := by
  obtain ⟨d1, d2, d3, d4, d5, d6, d7, d8, d9, d10, d11, d12, d13, d14, d15, d16, d17⟩ := hD.2 q hq
  have jq : j_in (nI q) 17 = true := j_in_nI hq (by decide)
  have cq : (nI q).toNatClampNeg = q := nI_clamp (by omega)
  have s64 : (2 * nI s - 15).toInt64 = lI (2 * s - 15) := by
    rw [nI_vI, show (2 : Int32) = vI 2 from rfl, show (15 : Int32) = vI 15 from rfl, vI_mul, vI_sub, vI_64 (by omega) (by omega)]
  have b64 : (vI (bt q)).toInt64 = lI (bt q) := vI_64 (by omega) (by omega)
  have cols : ∀ n : Nat, n ≤ cT q + 1 - cF q → ∀ o17 o18 o19 o20 o21 o22 : Option Value, ∃ p17 p18 p19 p20 p21 p22, jv d 36 106 [some (.ref 72), some (.int l1), some (.int l2), some (.int l3), some (.int (vI a)), some (.int (vI b)), some (.int (vI c)), some (.int (nI q)), some (.int l8), some (.int (nI s)), some (.long 0), none, some (.long 0), none, some (.long 0), none, some (.int (nI (cF q))), o17, o18, o19, o20, o21, o22] [] (shC, I, hmL L A X Y Z, pX pa pb pu pw) = jv d 36 106 [some (.ref 72), some (.int l1), some (.int l2), some (.int l3), some (.int (vI a)), some (.int (vI b)), some (.int (vI c)), some (.int (nI q)), some (.int l8), some (.int (nI s)), some (.long (lI (cA lo hi (fl q) (rf q) (cF q) n a b c s))), none, some (.long (lI (cY lo hi (fl q) (rf q) (cF q) n a b c s))), none, some (.long (lI (cZ lo hi (fl q) (rf q) (cF q) n a b c s))), none, some (.int (nI (cF q + n))), p17, p18, p19, p20, p21, p22] [] (shC, I, hmL L A X Y Z, pX pa pb pu pw) := by
    intro n
    induction n with
    | zero => intro _ o17 o18 o19 o20 o21 o22; exact ⟨o17, o18, o19, o20, o21, o22, rfl⟩
    | succ n ih =>
      intro hn o17 o18 o19 o20 o21 o22
      obtain ⟨p17, p18, p19, p20, p21, p22, e⟩ := ih (by omega) o17 o18 o19 o20 o21 o22
      obtain ⟨r17, r18, r19, r20, r21, r22, e'⟩ := wcol_1 (d := d) (L := hmL L A X Y Z) (pa := pa) (pb := pb) (pu := pu) (pw := pw) hD ha hb hc hs (show cF q + n ≤ cT q by omega) hq l1 l2 l3 l8 (cA lo hi (fl q) (rf q) (cF q) n a b c s) (cY lo hi (fl q) (rf q) (cF q) n a b c s) (cZ lo hi (fl q) (rf q) (cF q) n a b c s) p17 p18 p19 p20 p21 p22
      exact ⟨r17, r18, r19, r20, r21, r22, e.trans e'⟩
  obtain ⟨p17, p18, p19, p20, p21, p22, e⟩ := cols _ (Nat.le_refl _) o17 o18 o19 o20 o21 o22
  refine ⟨some (.long (lI (cA lo hi (fl q) (rf q) (cF q) (cT q + 1 - cF q) a b c s))), some (.long (lI (cY lo hi (fl q) (rf q) (cF q) (cT q + 1 - cF q) a b c s))), some (.long (lI (cZ lo hi (fl q) (rf q) (cF q) (cT q + 1 - cF q) a b c s))), some (.int (nI (cF q + (cT q + 1 - cF q)))), p17, p18, p19, p20, p21, p22, ?_⟩
  rw [B36_70, if_pos jq, cq, d2, if_neg (nI_nlt (by omega) (by omega)), h3, if_neg (nI_nlt (by omega) (by omega)), if_pos jq, d3]
  rw [h3] at e
  refine e.trans ?_
  have tot : cF q + (cT q + 1 - cF q) = if cF q ≤ cT q + 1 then cT q + 1 else cF q := by split <;> omega
  rw [B36_106, if_pos jq, cq, d4, if_pos (nI_lt (by omega) (by omega)), if_pos jq, if_pos jq, if_pos jq, if_pos jq, d15, show nI s + 1 = nI (s + 1) from nI_add s 1, s64, b64]
  generalize cA lo hi (fl q) (rf q) (cF q) (cT q + 1 - cF q) a b c s = u
  generalize cY lo hi (fl q) (rf q) (cF q) (cT q + 1 - cF q) a b c s = v
  generalize cZ lo hi (fl q) (rf q) (cF q) (cT q + 1 - cF q) a b c s = w
  have big : j_up (j_up (j_up (j_up (hmL L A X Y Z) 72 10 ((hmL L A X Y Z 72 10) + (lI u * lI (bt q)))) 72 12 (((j_up (hmL L A X Y Z) 72 10 ((hmL L A X Y Z 72 10) + (lI u * lI (bt q)))) 72 12) + ((lI u * lI (bt q)) * lI (2 * s - 15)))) 72 13 (((j_up (j_up (hmL L A X Y Z) 72 10 ((hmL L A X Y Z 72 10) + (lI u * lI (bt q)))) 72 12 (((j_up (hmL L A X Y Z) 72 10 ((hmL L A X Y Z 72 10) + (lI u * lI (bt q)))) 72 12) + ((lI u * lI (bt q)) * lI (2 * s - 15)))) 72 13) + (lI v * lI (bt q)))) 72 14 (((j_up (j_up (j_up (hmL L A X Y Z) 72 10 ((hmL L A X Y Z 72 10) + (lI u * lI (bt q)))) 72 12 (((j_up (hmL L A X Y Z) 72 10 ((hmL L A X Y Z 72 10) + (lI u * lI (bt q)))) 72 12) + ((lI u * lI (bt q)) * lI (2 * s - 15)))) 72 13 (((j_up (j_up (hmL L A X Y Z) 72 10 ((hmL L A X Y Z 72 10) + (lI u * lI (bt q)))) 72 12 (((j_up (hmL L A X Y Z) 72 10 ((hmL L A X Y Z 72 10) + (lI u * lI (bt q)))) 72 12) + ((lI u * lI (bt q)) * lI (2 * s - 15)))) 72 13) + (lI v * lI (bt q)))) 72 14) + (lI w * lI (bt q))) = hmL L (A + u * bt q) (X + u * bt q * (2 * s - 15)) (Y + v * bt q) (Z + w * bt q) := by
    have r10 : hmL L A X Y Z 72 10 = lI A := by rw [hmL_own]; rfl
    have r12 : hmL L A X Y Z 72 12 = lI X := by rw [hmL_own]; rfl
    have r13 : hmL L A X Y Z 72 13 = lI Y := by rw [hmL_own]; rfl
    have r14 : hmL L A X Y Z 72 14 = lI Z := by rw [hmL_own]; rfl
    rw [j_up_own, j_up_own, j_up_own, j_up_own, j_up_own, j_up_own, if_neg (by decide), if_neg (by decide), if_neg (by decide), if_neg (by decide), if_neg (by decide), if_neg (by decide), r10, r12, r13, r14, lI_mul, lI_mul, lI_mul, lI_mul, lI_add, lI_add, lI_add, lI_add]
    exact hmL_hmL _ _ _ _ _ _ _ _
  rw [big]
end SEAC
