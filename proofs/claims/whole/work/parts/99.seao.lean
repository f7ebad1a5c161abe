/-! SEA: the four sums of a column, second one -/
section SEAO
variable {e : Nat} {J : Nat → Nat → Int32} {L : Nat → Nat → Int64}
def mmL (L : Nat → Nat → Int64) (A X Y Z : Int) : Nat → Nat → Int64 := j_up (j_up (j_up (j_up L 0 79 (lI A)) 0 80 (lI X)) 0 81 (lI Y)) 0 82 (lI Z)
theorem mmL_c (A X Y Z : Int) {c : Nat} (h : c ≠ 0) : mmL L A X Y Z c = L c := by unfold mmL; rw [j_up_cell _ h, j_up_cell _ h, j_up_cell _ h, j_up_cell _ h]
theorem mmL_own (A X Y Z : Int) (j : Nat) : mmL L A X Y Z 0 j = if j = 82 then lI Z else if j = 81 then lI Y else if j = 80 then lI X else if j = 79 then lI A else L 0 j := by unfold mmL; rw [j_up_own, j_up_own, j_up_own, j_up_own]
theorem mmL_mmL (A X Y Z A' X' Y' Z' : Int) : mmL (mmL L A X Y Z) A' X' Y' Z' = mmL L A' X' Y' Z' := by
  funext c j
  by_cases h : c = 0
  · subst h
    rw [mmL_own, mmL_own, mmL_own]
    by_cases h1 : j = 82
    · rw [if_pos h1, if_pos h1]
    · by_cases h2 : j = 81
      · rw [if_neg h1, if_pos h2, if_neg h1, if_pos h2]
      · by_cases h3 : j = 80
        · rw [if_neg h1, if_neg h2, if_pos h3, if_neg h1, if_neg h2, if_pos h3]
        · by_cases h4 : j = 79
          · rw [if_neg h1, if_neg h2, if_neg h3, if_pos h4, if_neg h1, if_neg h2, if_neg h3, if_pos h4]
          · rw [if_neg h1, if_neg h2, if_neg h3, if_neg h4, if_neg h1, if_neg h2, if_neg h3, if_neg h4, if_neg h1, if_neg h2, if_neg h3, if_neg h4]
  · rw [mmL_c _ _ _ _ h, mmL_c _ _ _ _ h, mmL_c _ _ _ _ h]
theorem mcol_r {f : Nat → Nat} {x x' bb : Nat → Int} {s k : Nat} {lo hi : Int} {F : Int → Int} (hs : s < 16) (hk : k < 16) (hC : rnC J f x x' bb (16 * s + k) lo hi F) {l1 l2 l3 : Int32} {pl : Int} (h1 : -300000 ≤ pl) (h2 : pl ≤ 300000) : ∀ (r j : Nat) (A X Y Z : Int) (o8 o9 o10 : Option Value), f (16 * s + k) ≤ j → j + r = f (16 * s + k + 1) → ∃ p7 p8 p9 p10, jv e 303 78 [some (.ref 0), some (.int l1), some (.int l2), some (.int l3), some (.int (nI s)), some (.int (nI k)), some (.int (vI pl)), some (.int (nI j)), o8, o9, o10] [] (shR, J, mmL L A X Y Z, pR) = jv e 303 238 [some (.ref 0), some (.int l1), some (.int l2), some (.int l3), some (.int (nI s)), some (.int (nI k)), some (.int (vI pl)), some (.int p7), p8, p9, p10] [] (shR, J, mmL L (A + (if r = 0 then 0 else sR F (x j) (if pl < hi then pl else hi))) (X + (if r = 0 then 0 else sR F (x j) (if pl < hi then pl else hi)) * (2 * s - 15)) (Y + (if r = 0 then 0 else sR F (x j) (if pl < hi then pl else hi)) * (2 * k - 15)) (Z + (if r = 0 then 0 else sR (fun y => F y * (2 * y + 1)) (x j) (if pl < hi then pl else hi))), pR) := by
  obtain ⟨c1, c2, c3, c4, c5, c6, c7, c8⟩ := hC
  have ei : ((16 : Int32) * nI s + nI k) + 1 = nI (16 * s + k + 1) := by rw [show (16 : Int32) = nI 16 from rfl, nI_mul, nI_add]; exact nI_add _ 1
  have ji : j_in (nI (16 * s + k + 1)) 257 = true := j_in_nI (by omega) (by decide)
  have ci : (nI (16 * s + k + 1)).toNatClampNeg = 16 * s + k + 1 := nI_clamp (by omega)
  have d64 : ∀ n : Nat, n < 16 → (2 * nI n - 15).toInt64 = lI (2 * n - 15) := fun n hn => by
    rw [nI_vI, show (2 : Int32) = vI 2 from rfl, show (15 : Int32) = vI 15 from rfl, vI_mul, vI_sub, vI_64 (by omega) (by omega)]
  intro r
  induction r with
  | zero =>
    intro j A X Y Z o8 o9 o10 hj hr
    refine ⟨nI j, o8, o9, o10, ?_⟩
    rw [B303_78, ei, if_pos ji, ci, c2, if_neg (nI_nlt (by omega) (by omega)), if_pos rfl, if_pos rfl, Int.zero_mul, Int.zero_mul, Int.add_zero, Int.add_zero, Int.add_zero, Int.add_zero]
  | succ r ih =>
    intro j A X Y Z o8 o9 o10 hj hr
    obtain ⟨d1, d2, d3, d4, d5, d6, d7, d8, d9, d10, d11⟩ := c5 j hj (by omega)
    have jj : j_in (nI j) 9000 = true := j_in_nI (by omega) (by decide)
    have cj : (nI j).toNatClampNeg = j := nI_clamp (by omega)
    rw [B303_78, ei, if_pos ji, ci, c2, if_pos (nI_lt (by omega) (by omega)), if_pos jj, cj, d1]
    by_cases g : x j < pl
    case neg =>
      refine ⟨nI j, o8, o9, o10, ?_⟩
      have nl : (if pl < hi then pl else hi) ≤ x j := by split <;> omega
      rw [if_neg (fun w => g ((vI_lt (by omega) (by omega) (by omega) (by omega)).mp w)), if_neg (Nat.succ_ne_zero r), if_neg (Nat.succ_ne_zero r), sR_nil nl, sR_nil nl, Int.zero_mul, Int.zero_mul, Int.add_zero, Int.add_zero, Int.add_zero, Int.add_zero]
    rw [if_pos ((vI_lt (by omega) (by omega) (by omega) (by omega)).mpr g), if_pos jj, d2]
    have one : ∀ u : Int, u = (if x' j < pl then x' j else pl) → ∃ p7 p8 p9 p10, jv e 303 134 [some (.ref 0), some (.int l1), some (.int l2), some (.int l3), some (.int (nI s)), some (.int (nI k)), some (.int (vI pl)), some (.int (nI j)), o8, o9, o10] [.int (vI u)] (shR, J, mmL L A X Y Z, pR) = jv e 303 238 [some (.ref 0), some (.int l1), some (.int l2), some (.int l3), some (.int (nI s)), some (.int (nI k)), some (.int (vI pl)), some (.int p7), p8, p9, p10] [] (shR, J, mmL L (A + (if r + 1 = 0 then 0 else sR F (x j) (if pl < hi then pl else hi))) (X + (if r + 1 = 0 then 0 else sR F (x j) (if pl < hi then pl else hi)) * (2 * s - 15)) (Y + (if r + 1 = 0 then 0 else sR F (x j) (if pl < hi then pl else hi)) * (2 * k - 15)) (Z + (if r + 1 = 0 then 0 else sR (fun y => F y * (2 * y + 1)) (x j) (if pl < hi then pl else hi))), pR) := by
      intro u hu
      have ub : x j ≤ u ∧ u ≤ x' j ∧ u ≤ pl ∧ (u = x' j ∨ u = pl) := by rw [hu]; split <;> omega
      have b64 : (vI (bb j)).toInt64 = lI (bb j) := vI_64 (by omega) (by omega)
      obtain ⟨p7, p8, p9, p10, n1⟩ := ih (j + 1) (A + (u - x j) * bb j) (X + (u - x j) * bb j * (2 * s - 15)) (Y + (u - x j) * bb j * (2 * k - 15)) (Z + (u - x j) * bb j * (x j + u)) (some (.int (vI u))) (some (.long (lI ((u - x j) * bb j)))) none (by omega) (by omega)
      refine ⟨p7, p8, p9, p10, ?_⟩
      have split2 : ∀ G : Int → Int, sR G (x j) (if pl < hi then pl else hi) = sR G (x j) u + (if r = 0 then 0 else sR G (x (j + 1)) (if pl < hi then pl else hi)) := by
        intro G
        have ule : u ≤ (if pl < hi then pl else hi) := by split <;> omega
        rw [sR_split (b := u) ub.1 ule]
        congr 1
        by_cases z : r = 0
        · rw [if_pos z]
          have := d11 (by omega)
          exact sR_nil (by rcases ub.2.2.2 with w | w <;> split <;> omega)
        · rw [if_neg z, d10 (by omega)]
          rcases ub.2.2.2 with w | w
          · rw [w]
          · rw [sR_nil (show (if pl < hi then pl else hi) ≤ u by split <;> omega), sR_nil (show (if pl < hi then pl else hi) ≤ x' j by split <;> omega)]
      have pc1 : sR F (x j) u = (u - x j) * bb j := by
        rw [sR_congr (g := fun _ => bb j) (fun y y1 y2 => d9 y y1 (by omega)), sR_const ub.1, Int.mul_comm]
      have pc2 : sR (fun y => F y * (2 * y + 1)) (x j) u = (u - x j) * bb j * (x j + u) := by
        rw [sR_congr (g := fun y => bb j * (2 * y + 1)) (fun y y1 y2 => by rw [d9 y y1 (by omega)]), sR_mul, sR_mid ub.1, Int.mul_comm (u - x j) (bb j), Int.mul_assoc]
      have r79 : mmL L A X Y Z 0 79 = lI A := by rw [mmL_own]; rfl
      have r80 : mmL L A X Y Z 0 80 = lI X := by rw [mmL_own]; rfl
      have r81 : mmL L A X Y Z 0 81 = lI Y := by rw [mmL_own]; rfl
      have r82 : mmL L A X Y Z 0 82 = lI Z := by rw [mmL_own]; rfl
      rw [B303_134, if_pos jj, if_pos jj, if_pos jj, cj, d1, d3, vI_sub, vI_add, b64, vI_64 (z := u - x j) (by omega) (by omega), vI_64 (z := x j + u) (by omega) (by omega), d64 s hs, d64 k hk, show nI j + 1 = nI (j + 1) from nI_add j 1]
      rw [j_up_own, j_up_own, j_up_own, j_up_own, j_up_own, j_up_own, if_neg (by decide), if_neg (by decide), if_neg (by decide), if_neg (by decide), if_neg (by decide), if_neg (by decide), r79, r80, r81, r82, lI_mul, lI_mul, lI_mul, lI_mul, lI_add, lI_add, lI_add, lI_add]
      rw [if_neg (Nat.succ_ne_zero r), if_neg (Nat.succ_ne_zero r), split2 F, split2, pc1, pc2]
      have fold : j_up (j_up (j_up (j_up (mmL L A X Y Z) 0 79 (lI (A + (u - x j) * bb j))) 0 80 (lI (X + (u - x j) * bb j * (2 * s - 15)))) 0 81 (lI (Y + (u - x j) * bb j * (2 * k - 15)))) 0 82 (lI (Z + (u - x j) * bb j * (x j + u))) = mmL L (A + (u - x j) * bb j) (X + (u - x j) * bb j * (2 * s - 15)) (Y + (u - x j) * bb j * (2 * k - 15)) (Z + (u - x j) * bb j * (x j + u)) := mmL_mmL _ _ _ _ _ _ _ _
      rw [fold, n1, Int.add_mul, Int.add_mul, Int.add_assoc, Int.add_assoc, Int.add_assoc, Int.add_assoc]
    by_cases g2 : x' j < pl
    · rw [if_pos ((vI_lt (by omega) (by omega) (by omega) (by omega)).mpr g2), if_pos jj]
      exact one (x' j) (by rw [if_pos g2])
    · rw [if_neg (fun w => g2 ((vI_lt (by omega) (by omega) (by omega) (by omega)).mp w))]
      exact one pl (by rw [if_neg g2])
end SEAO
