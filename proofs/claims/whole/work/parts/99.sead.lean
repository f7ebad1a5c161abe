/-! SEA: what a set of blocks weighs, first one -/
section SEAD
variable {d : Nat} {I : Nat → Nat → Int32} {L : Nat → Nat → Int64} {pa pb pu pw : Option Nat} {lo hi : Nat → Int} {sF sT cF cT : Nat → Nat} {fl rf bt : Nat → Int}
def fS0 (sF : Nat → Nat) (t0 q : Nat) : Nat := if t0 < sF q then sF q else t0
def nS0 (sF sT : Nat → Nat) (t0 t1 q : Nat) : Nat := (if sT q < t1 then sT q else t1) + 1 - fS0 sF t0 q
/-- the four sums of a block: g 0 amount, 1 along, 2 across, 3 up -/
def gB (lo hi : Nat → Int) (cF cT : Nat → Nat) (fl rf bt : Nat → Int) (a b c : Int) (q w s : Nat) : Int := if w = 0 then cA lo hi (fl q) (rf q) (cF q) (cT q + 1 - cF q) a b c s * bt q else if w = 1 then cA lo hi (fl q) (rf q) (cF q) (cT q + 1 - cF q) a b c s * bt q * (2 * s - 15) else if w = 2 then cY lo hi (fl q) (rf q) (cF q) (cT q + 1 - cF q) a b c s * bt q else cZ lo hi (fl q) (rf q) (cF q) (cT q + 1 - cF q) a b c s * bt q
def bkB (lo hi : Nat → Int) (sF sT cF cT : Nat → Nat) (fl rf bt : Nat → Int) (a b c : Int) (t0 t1 q w : Nat) : Int := sZ (gB lo hi cF cT fl rf bt a b c q w) (fS0 sF t0 q) (nS0 sF sT t0 t1 q)
def wB (sb : Nat → Bool) (lo hi : Nat → Int) (sF sT cF cT : Nat → Nat) (fl rf bt : Nat → Int) (a b c : Int) (t0 t1 w n : Nat) : Int := sZ (fun q => if sb q = true then bkB lo hi sF sT cF cT fl rf bt a b c t0 t1 q w else 0) 0 n
theorem weigh_c (hD : hlD I lo hi sF sT cF cT fl rf bt) {a b c : Int} (ha : -200001 ≤ a ∧ a ≤ 200001) (hb : -2048 ≤ b ∧ b ≤ 2048) (hc : -2048 ≤ c ∧ c ≤ 2048) {t0 t1 : Nat} (h0 : t0 < 16) (h1 : t1 < 16) {l1 : Int32} {sb : Nat → Bool} (hset : ∀ q, q < 17 → (((l1 >>> (nI q &&& 31)) &&& 1) = 0 ↔ sb q = false)) : jv d 36 0 [some (.ref 72), some (.int l1), some (.int (nI t0)), some (.int (nI t1)), some (.int (vI a)), some (.int (vI b)), some (.int (vI c)), none, none, none, none, none, none, none, none, none, none, none, none, none, none, none, none] [] (shC, I, L, pX pa pb pu pw) = some (none, (shC, I, hmL L (wB sb lo hi sF sT cF cT fl rf bt a b c t0 t1 0 17) (wB sb lo hi sF sT cF cT fl rf bt a b c t0 t1 1 17) (wB sb lo hi sF sT cF cT fl rf bt a b c t0 t1 2 17) (wB sb lo hi sF sT cF cT fl rf bt a b c t0 t1 3 17), pX pa pb pu pw)) := by
  -- slices of one block
  have sl : ∀ q, q < 17 → ∀ (A X Y Z : Int) (l8 : Int32) (o10 o11 o12 o13 o14 o15 o16 o17 o18 o19 o20 o21 o22 : Option Value) (n : Nat), n ≤ nS0 sF sT t0 t1 q → ∃ p10 p11 p12 p13 p14 p15 p16 p17 p18 p19 p20 p21 p22, jv d 36 70 [some (.ref 72), some (.int l1), some (.int (nI t0)), some (.int (nI t1)), some (.int (vI a)), some (.int (vI b)), some (.int (vI c)), some (.int (nI q)), some (.int l8), some (.int (nI (fS0 sF t0 q))), o10, o11, o12, o13, o14, o15, o16, o17, o18, o19, o20, o21, o22] [] (shC, I, hmL L A X Y Z, pX pa pb pu pw) = jv d 36 70 [some (.ref 72), some (.int l1), some (.int (nI t0)), some (.int (nI t1)), some (.int (vI a)), some (.int (vI b)), some (.int (vI c)), some (.int (nI q)), some (.int l8), some (.int (nI (fS0 sF t0 q + n))), p10, p11, p12, p13, p14, p15, p16, p17, p18, p19, p20, p21, p22] [] (shC, I, hmL L (A + sZ (gB lo hi cF cT fl rf bt a b c q 0) (fS0 sF t0 q) n) (X + sZ (gB lo hi cF cT fl rf bt a b c q 1) (fS0 sF t0 q) n) (Y + sZ (gB lo hi cF cT fl rf bt a b c q 2) (fS0 sF t0 q) n) (Z + sZ (gB lo hi cF cT fl rf bt a b c q 3) (fS0 sF t0 q) n), pX pa pb pu pw) := by
    intro q hq A X Y Z l8 o10 o11 o12 o13 o14 o15 o16 o17 o18 o19 o20 o21 o22 n
    obtain ⟨d1, d2, d3, d4, d5, d6, d7, d8, _⟩ := hD.2 q hq
    induction n with
    | zero =>
      intro _
      refine ⟨o10, o11, o12, o13, o14, o15, o16, o17, o18, o19, o20, o21, o22, ?_⟩
      show _ = jv d 36 70 [some (.ref 72), some (.int l1), some (.int (nI t0)), some (.int (nI t1)), some (.int (vI a)), some (.int (vI b)), some (.int (vI c)), some (.int (nI q)), some (.int l8), some (.int (nI (fS0 sF t0 q))), o10, o11, o12, o13, o14, o15, o16, o17, o18, o19, o20, o21, o22] [] (shC, I, hmL L (A + 0) (X + 0) (Y + 0) (Z + 0), pX pa pb pu pw)
      rw [Int.add_zero, Int.add_zero, Int.add_zero, Int.add_zero]
    | succ n ih =>
      intro hn
      obtain ⟨p10, p11, p12, p13, p14, p15, p16, p17, p18, p19, p20, p21, p22, e⟩ := ih (by omega)
      have f16 : fS0 sF t0 q + n < 16 ∧ fS0 sF t0 q + n ≤ sT q ∧ fS0 sF t0 q + n ≤ t1 := by
        have hn' := hn
        unfold nS0 at hn'
        by_cases z : sT q < t1
        · rw [if_pos z] at hn'; omega
        · rw [if_neg z] at hn'; omega
      obtain ⟨r10, r12, r14, r16, r17, r18, r19, r20, r21, r22, e'⟩ := wrow_c (d := d) (L := L) (pa := pa) (pb := pb) (pu := pu) (pw := pw) hD ha hb hc f16.1 hq l1 (nI t0) (nI t1) l8 (A + sZ (gB lo hi cF cT fl rf bt a b c q 0) (fS0 sF t0 q) n) (X + sZ (gB lo hi cF cT fl rf bt a b c q 1) (fS0 sF t0 q) n) (Y + sZ (gB lo hi cF cT fl rf bt a b c q 2) (fS0 sF t0 q) n) (Z + sZ (gB lo hi cF cT fl rf bt a b c q 3) (fS0 sF t0 q) n) p10 p11 p12 p13 p14 p15 p16 p17 p18 p19 p20 p21 p22 f16.2.1 (t1 := t1) rfl h1 f16.2.2
      refine ⟨r10, none, r12, none, r14, none, r16, r17, r18, r19, r20, r21, r22, e.trans (e'.trans ?_)⟩
      rw [Int.add_assoc, Int.add_assoc, Int.add_assoc, Int.add_assoc]
      rfl
  -- all blocks
  have all : ∀ r q (o8 o9 o10 o11 o12 o13 o14 o15 o16 o17 o18 o19 o20 o21 o22 : Option Value), q + r = 17 → jv d 36 23 [some (.ref 72), some (.int l1), some (.int (nI t0)), some (.int (nI t1)), some (.int (vI a)), some (.int (vI b)), some (.int (vI c)), some (.int (nI q)), o8, o9, o10, o11, o12, o13, o14, o15, o16, o17, o18, o19, o20, o21, o22] [] (shC, I, hmL L (wB sb lo hi sF sT cF cT fl rf bt a b c t0 t1 0 q) (wB sb lo hi sF sT cF cT fl rf bt a b c t0 t1 1 q) (wB sb lo hi sF sT cF cT fl rf bt a b c t0 t1 2 q) (wB sb lo hi sF sT cF cT fl rf bt a b c t0 t1 3 q), pX pa pb pu pw) = some (none, (shC, I, hmL L (wB sb lo hi sF sT cF cT fl rf bt a b c t0 t1 0 17) (wB sb lo hi sF sT cF cT fl rf bt a b c t0 t1 1 17) (wB sb lo hi sF sT cF cT fl rf bt a b c t0 t1 2 17) (wB sb lo hi sF sT cF cT fl rf bt a b c t0 t1 3 17), pX pa pb pu pw)) := by
    intro r
    induction r with
    | zero =>
      intro q o8 o9 o10 o11 o12 o13 o14 o15 o16 o17 o18 o19 o20 o21 o22 hq
      obtain rfl : q = 17 := by omega
      rw [B36_23, if_neg (show ¬ nI 17 < (17 : Int32) by decide)]
    | succ r ih =>
      intro q o8 o9 o10 o11 o12 o13 o14 o15 o16 o17 o18 o19 o20 o21 o22 hr
      have hq : q < 17 := by omega
      obtain ⟨d1, d2, d3, d4, d5, d6, d7, d8, _⟩ := hD.2 q hq
      have jq : j_in (nI q) 17 = true := j_in_nI hq (by decide)
      have cq : (nI q).toNatClampNeg = q := nI_clamp (by omega)
      have wS : ∀ w, wB sb lo hi sF sT cF cT fl rf bt a b c t0 t1 w (q + 1) = wB sb lo hi sF sT cF cT fl rf bt a b c t0 t1 w q + (if sb q = true then bkB lo hi sF sT cF cT fl rf bt a b c t0 t1 q w else 0) := fun w => by
        unfold wB
        show sZ _ 0 q + (if sb (0 + q) = true then bkB lo hi sF sT cF cT fl rf bt a b c t0 t1 (0 + q) w else 0) = _
        rw [Nat.zero_add]
      have nx := ih (q + 1)
      rw [wS, wS, wS, wS] at nx
      rw [B36_23, if_pos (show nI q < (17 : Int32) from nI_lt (b := 17) hq (by decide))]
      cases hsb : sb q with
      | false =>
        rw [if_pos ((hset q hq).mpr hsb), B36_395, show nI q + 1 = nI (q + 1) from nI_add q 1]
        simp only [hsb, Bool.false_eq_true, ↓reduceIte, Int.add_zero] at nx
        exact nx _ _ _ _ _ _ _ _ _ _ _ _ _ _ _ (by omega)
      | true =>
        simp only [hsb, ↓reduceIte] at nx
        have start : ∀ X : jO, (∀ l8 l9 : Int32, l8 = nI (fS0 sF t0 q) → l9 = nI (fS0 sF t0 q) → jv d 36 70 [some (.ref 72), some (.int l1), some (.int (nI t0)), some (.int (nI t1)), some (.int (vI a)), some (.int (vI b)), some (.int (vI c)), some (.int (nI q)), some (.int l8), some (.int l9), o10, o11, o12, o13, o14, o15, o16, o17, o18, o19, o20, o21, o22] [] (shC, I, hmL L (wB sb lo hi sF sT cF cT fl rf bt a b c t0 t1 0 q) (wB sb lo hi sF sT cF cT fl rf bt a b c t0 t1 1 q) (wB sb lo hi sF sT cF cT fl rf bt a b c t0 t1 2 q) (wB sb lo hi sF sT cF cT fl rf bt a b c t0 t1 3 q), pX pa pb pu pw) = X) → (if nI t0 < I 75 (nI q).toNatClampNeg then (if j_in (nI q) 17 = true then jv d 36 64 [some (.ref 72), some (.int l1), some (.int (nI t0)), some (.int (nI t1)), some (.int (vI a)), some (.int (vI b)), some (.int (vI c)), some (.int (nI q)), o8, o9, o10, o11, o12, o13, o14, o15, o16, o17, o18, o19, o20, o21, o22] [.int (I 75 (nI q).toNatClampNeg)] (shC, I, hmL L (wB sb lo hi sF sT cF cT fl rf bt a b c t0 t1 0 q) (wB sb lo hi sF sT cF cT fl rf bt a b c t0 t1 1 q) (wB sb lo hi sF sT cF cT fl rf bt a b c t0 t1 2 q) (wB sb lo hi sF sT cF cT fl rf bt a b c t0 t1 3 q), pX pa pb pu pw) else none) else jv d 36 64 [some (.ref 72), some (.int l1), some (.int (nI t0)), some (.int (nI t1)), some (.int (vI a)), some (.int (vI b)), some (.int (vI c)), some (.int (nI q)), o8, o9, o10, o11, o12, o13, o14, o15, o16, o17, o18, o19, o20, o21, o22] [.int (nI t0)] (shC, I, hmL L (wB sb lo hi sF sT cF cT fl rf bt a b c t0 t1 0 q) (wB sb lo hi sF sT cF cT fl rf bt a b c t0 t1 1 q) (wB sb lo hi sF sT cF cT fl rf bt a b c t0 t1 2 q) (wB sb lo hi sF sT cF cT fl rf bt a b c t0 t1 3 q), pX pa pb pu pw)) = X := by
          intro X hX
          rw [cq, d1]
          by_cases z : t0 < sF q
          · rw [if_pos (nI_lt z (by omega)), if_pos jq, B36_64]
            exact hX _ _ (by unfold fS0; rw [if_pos z]) (by unfold fS0; rw [if_pos z])
          · rw [if_neg (nI_nlt (by omega) (by omega)), B36_64]
            exact hX _ _ (by unfold fS0; rw [if_neg z]) (by unfold fS0; rw [if_neg z])
        rw [if_neg (fun y => by rw [(hset q hq).mp y] at hsb; exact absurd hsb (by decide)), if_pos jq]
        apply start
        intro l8 l9 e8 e9
        subst e8
        subst e9
        obtain ⟨p10, p11, p12, p13, p14, p15, p16, p17, p18, p19, p20, p21, p22, e⟩ := sl q hq (wB sb lo hi sF sT cF cT fl rf bt a b c t0 t1 0 q) (wB sb lo hi sF sT cF cT fl rf bt a b c t0 t1 1 q) (wB sb lo hi sF sT cF cT fl rf bt a b c t0 t1 2 q) (wB sb lo hi sF sT cF cT fl rf bt a b c t0 t1 3 q) (nI (fS0 sF t0 q)) o10 o11 o12 o13 o14 o15 o16 o17 o18 o19 o20 o21 o22 (nS0 sF sT t0 t1 q) (Nat.le_refl _)
        refine e.trans ?_
        have fb : fS0 sF t0 q < 16 := by unfold fS0; split <;> omega
        have out : jv d 36 70 [some (.ref 72), some (.int l1), some (.int (nI t0)), some (.int (nI t1)), some (.int (vI a)), some (.int (vI b)), some (.int (vI c)), some (.int (nI q)), some (.int (nI (fS0 sF t0 q))), some (.int (nI (fS0 sF t0 q + nS0 sF sT t0 t1 q))), p10, p11, p12, p13, p14, p15, p16, p17, p18, p19, p20, p21, p22] [] (shC, I, hmL L (wB sb lo hi sF sT cF cT fl rf bt a b c t0 t1 0 q + bkB lo hi sF sT cF cT fl rf bt a b c t0 t1 q 0) (wB sb lo hi sF sT cF cT fl rf bt a b c t0 t1 1 q + bkB lo hi sF sT cF cT fl rf bt a b c t0 t1 q 1) (wB sb lo hi sF sT cF cT fl rf bt a b c t0 t1 2 q + bkB lo hi sF sT cF cT fl rf bt a b c t0 t1 q 2) (wB sb lo hi sF sT cF cT fl rf bt a b c t0 t1 3 q + bkB lo hi sF sT cF cT fl rf bt a b c t0 t1 q 3), pX pa pb pu pw) = jv d 36 395 [some (.ref 72), some (.int l1), some (.int (nI t0)), some (.int (nI t1)), some (.int (vI a)), some (.int (vI b)), some (.int (vI c)), some (.int (nI q)), some (.int (nI (fS0 sF t0 q))), some (.int (nI (fS0 sF t0 q + nS0 sF sT t0 t1 q))), p10, p11, p12, p13, p14, p15, p16, p17, p18, p19, p20, p21, p22] [] (shC, I, hmL L (wB sb lo hi sF sT cF cT fl rf bt a b c t0 t1 0 q + bkB lo hi sF sT cF cT fl rf bt a b c t0 t1 q 0) (wB sb lo hi sF sT cF cT fl rf bt a b c t0 t1 1 q + bkB lo hi sF sT cF cT fl rf bt a b c t0 t1 q 1) (wB sb lo hi sF sT cF cT fl rf bt a b c t0 t1 2 q + bkB lo hi sF sT cF cT fl rf bt a b c t0 t1 q 2) (wB sb lo hi sF sT cF cT fl rf bt a b c t0 t1 3 q + bkB lo hi sF sT cF cT fl rf bt a b c t0 t1 q 3), pX pa pb pu pw) := by
          have nb : nS0 sF sT t0 t1 q ≤ 16 := by unfold nS0; split <;> omega
          rw [B36_70, if_pos jq, cq, d2]
          by_cases z : sT q < fS0 sF t0 q + nS0 sF sT t0 t1 q
          · rw [if_pos (nI_lt z (by omega))]
          · rw [if_neg (nI_nlt (by omega) (by omega)), if_pos (nI_lt (by
              unfold nS0 at z ⊢
              by_cases y : sT q < t1
              · rw [if_pos y] at z ⊢; omega
              · rw [if_neg y] at z ⊢; omega) (by omega))]
        refine out.trans ?_
        rw [B36_395, show nI q + 1 = nI (q + 1) from nI_add q 1]
        exact nx _ _ _ _ _ _ _ _ _ _ _ _ _ _ _ (by omega)
  rw [B36_0]
  exact all 17 0 none none none none none none none none none none none none none none none rfl
end SEAD
