/-! SEA: a liquid's moments, second one -/
section SEAY
variable {d e : Nat} {I J : Nat → Nat → Int32} {L L' : Nat → Nat → Int64} {m : Nat → Int32} {o : Nat}
def lmL (L : Nat → Nat → Int64) (X Y Z : Int) : Nat → Nat → Int64 := j_up (j_up (j_up L 0 83 (lI X)) 0 84 (lI Y)) 0 85 (lI Z)
theorem lmL_c (X Y Z : Int) {c : Nat} (h : c ≠ 0) : lmL L X Y Z c = L c := by unfold lmL; rw [j_up_cell _ h, j_up_cell _ h, j_up_cell _ h]
theorem lmL_own (X Y Z : Int) (j : Nat) : lmL L X Y Z 0 j = if j = 85 then lI Z else if j = 84 then lI Y else if j = 83 then lI X else L 0 j := by unfold lmL; rw [j_up_own, j_up_own, j_up_own]
theorem lmL_lmL (X Y Z X' Y' Z' : Int) : lmL (lmL L X Y Z) X' Y' Z' = lmL L X' Y' Z' := by
  funext c j
  by_cases h : c = 0
  · subst h
    rw [lmL_own, lmL_own, lmL_own]
    by_cases h1 : j = 85
    · rw [if_pos h1, if_pos h1]
    · by_cases h2 : j = 84
      · rw [if_neg h1, if_pos h2, if_neg h1, if_pos h2]
      · by_cases h3 : j = 83
        · rw [if_neg h1, if_neg h2, if_pos h3, if_neg h1, if_neg h2, if_pos h3]
        · rw [if_neg h1, if_neg h2, if_neg h3, if_neg h1, if_neg h2, if_neg h3, if_neg h1, if_neg h2, if_neg h3]
  · rw [lmL_c _ _ _ h, lmL_c _ _ _ h, lmL_c _ _ _ h]
theorem lmL_self {X Y Z : Int} (h1 : L 0 83 = lI X) (h2 : L 0 84 = lI Y) (h3 : L 0 85 = lI Z) : lmL L X Y Z = L := by
  funext c j
  by_cases h : c = 0
  · subst h
    rw [lmL_own]
    by_cases q1 : j = 85
    · rw [if_pos q1, q1, h3]
    · by_cases q2 : j = 84
      · rw [if_neg q1, if_pos q2, q2, h2]
      · by_cases q3 : j = 83
        · rw [if_neg q1, if_neg q2, if_pos q3, q3, h1]
        · rw [if_neg q1, if_neg q2, if_neg q3]
  · rw [lmL_c _ _ _ h]
theorem d64 {n : Nat} (hn : n < 16) : (2 * nI n - 15).toInt64 = lI (2 * n - 15) := by
  rw [nI_vI, show (2 : Int32) = vI 2 from rfl, show (15 : Int32) = vI 15 from rfl, vI_mul, vI_sub, vI_64 (by omega) (by omega)]
abbrev gL (m : Nat → Int32) (p : Nat) (a b c : Int) (w s k : Nat) : Int := gC (hLo m) (hHi m) (hFl m) (hRf m) (fun _ => 1) a b c w (p + 1) s k
theorem lmom_r (h : mQ m I J) {p : Nat} (hp : p < 16) {a b c : Int} (ha : -200001 ≤ a ∧ a ≤ 200001) (hb : -2048 ≤ b ∧ b ≤ 2048) (hc : -2048 ≤ c ∧ c ≤ 2048) (X Y Z : Int) : jv (e + 3) 311 0 [some (.ref 0), some (.int (nI p)), some (.int (vI a)), some (.int (vI b)), some (.int (vI c)), none, none, none, none, none, none, none, none, none, none, none] [] (shR, J, lmL L X Y Z, pR) = some (none, (shR, J, lmL L (X + LW m p 1 a b c * mv m (401 + p * 2)) (Y + LW m p 2 a b c * mv m (401 + p * 2)) (Z + LW m p 3 a b c * mv m (401 + p * 2)), pR)) := by
  obtain ⟨f0, f1, f2, f3, f4, f5, f6, a0, a1, a2, a3, a4, a5, a6, m0, m1, m2, m3, m4, m5, m6⟩ := h.space hp
  have ee : ∀ x, nI (152 + p * 8) + nI x = nI (152 + x + p * 8) := fun x => by rw [nI_add, show 152 + p * 8 + x = 152 + x + p * 8 by omega]
  have jj : ∀ x, x < 8 → j_in (nI (152 + x + p * 8)) 1189 = true := fun x hx => j_in_nI (by omega) (by decide)
  obtain ⟨y1, y2, y3, y4, x5, x6, x7, x8⟩ := h.sp (q := p + 1) (by omega)
  have g1 : hSF m (p + 1) = f1 := by unfold hSF; rw [if_neg (by omega), Nat.add_sub_cancel, mN_n m1 (by omega)]
  have g2 : hST m (p + 1) = f2 := by unfold hST; rw [if_neg (by omega), Nat.add_sub_cancel, mN_n m2 (by omega)]
  have g3 : hCF m (p + 1) = f3 := by unfold hCF; rw [if_neg (by omega), Nat.add_sub_cancel, mN_n m3 (by omega)]
  have g4 : hCT m (p + 1) = f4 := by unfold hCT; rw [if_neg (by omega), Nat.add_sub_cancel, mN_n m4 (by omega)]
  generalize hwt : mv m (401 + p * 2) = wt
  have col : ∀ {s : Nat}, s < 16 → ∀ (r k : Nat) (X Y Z : Int) (o11 o12 o13 o14 o15 : Option Value), r = f4 + 1 - k → k ≤ 16 → ∃ o10 p11 p12 p13 p14 p15, jv (e + 3) 311 69 [some (.ref 0), some (.int (nI p)), some (.int (vI a)), some (.int (vI b)), some (.int (vI c)), some (.int (nI (152 + p * 8))), some (.long (lI wt)), none, some (.int (nI s)), some (.int (vI (wV (64 * mv m (16 + s * 9)) (hRf m (p + 1))))), some (.int (nI k)), o11, o12, o13, o14, o15] [] (shR, J, lmL L X Y Z, pR) = jv (e + 3) 311 35 [some (.ref 0), some (.int (nI p)), some (.int (vI a)), some (.int (vI b)), some (.int (vI c)), some (.int (nI (152 + p * 8))), some (.long (lI wt)), none, some (.int (nI (s + 1))), some (.int (vI (wV (64 * mv m (16 + s * 9)) (hRf m (p + 1))))), o10, p11, p12, p13, p14, p15] [] (shR, J, lmL L (X + sZ (gL m p a b c 1 s) k r * wt) (Y + sZ (gL m p a b c 2 s) k r * wt) (Z + sZ (gL m p a b c 3 s) k r * wt), pR) := by
    intro s hs r
    induction r with
    | zero =>
      intro k X Y Z o11 o12 o13 o14 o15 hr k16
      refine ⟨some (.int (nI k)), o11, o12, o13, o14, o15, ?_⟩
      rw [B311_69, show nI (152 + p * 8) + 4 = nI (156 + p * 8) from ee 4, if_pos (jj 4 (by decide)), nI_clamp (n := 156 + p * 8) (by omega), h.2.1 _ (by omega), m4, if_pos (nI_lt (by omega) (by omega)), nI_1]
      show _ = jv _ _ _ _ _ (shR, J, lmL L (X + 0 * wt) (Y + 0 * wt) (Z + 0 * wt), pR)
      rw [Int.zero_mul, Int.add_zero, Int.add_zero, Int.add_zero]
    | succ r ih =>
      intro k X Y Z o11 o12 o13 o14 o15 hr k16
      have hk : k < 16 := by omega
      obtain ⟨l0, l1, l2, l3⟩ := h.lo (i := 16 * s + k) (by omega)
      have pb := plY_b (s := s) (k := k) ha hb hc hs hk
      rw [B311_69, show nI (152 + p * 8) + 4 = nI (156 + p * 8) from ee 4, if_pos (jj 4 (by decide)), nI_clamp (n := 156 + p * 8) (by omega), h.2.1 _ (by omega), m4, if_neg (nI_nlt (by omega) (by omega)), jgo_some (d := e + 2) rfl (low_r h hp hs hk)]
      dsimp only [Option.toList_some, List.cons_append, List.nil_append]
      rw [B311_92, plY_v, sZ_front, sZ_front, sZ_front]
      have ht : (if vI (plY a b c s k) < vI (wV (64 * mv m (16 + s * 9)) (hRf m (p + 1))) then vI (plY a b c s k) else vI (wV (64 * mv m (16 + s * 9)) (hRf m (p + 1)))) = vI (wU (hHi m (16 * s + k)) (hRf m (p + 1)) (plY a b c s k)) := by
        rw [hHi_k hk, wU_V]
        have vb : 0 ≤ wV (64 * mv m (16 + s * 9)) (hRf m (p + 1)) ∧ wV (64 * mv m (16 + s * 9)) (hRf m (p + 1)) ≤ 200000 := by
          rw [hHi_k hk] at l2 l3; unfold wV; split <;> omega
        by_cases z : plY a b c s k < wV (64 * mv m (16 + s * 9)) (hRf m (p + 1))
        · rw [if_pos ((vI_lt (by omega) (by omega) (by omega) (by omega)).mpr z), if_pos z]
        · rw [if_neg (fun y => z ((vI_lt (by omega) (by omega) (by omega) (by omega)).mp y)), if_neg z]
      have st : ∀ (S : Int32), S = vI (wU (hHi m (16 * s + k)) (hRf m (p + 1)) (plY a b c s k)) → ∃ o10 p11 p12 p13 p14 p15, jv (e + 3) 311 132 [some (.ref 0), some (.int (nI p)), some (.int (vI a)), some (.int (vI b)), some (.int (vI c)), some (.int (nI (152 + p * 8))), some (.long (lI wt)), none, some (.int (nI s)), some (.int (vI (wV (64 * mv m (16 + s * 9)) (hRf m (p + 1))))), some (.int (nI k)), some (.int (vI (wL (hLo m (16 * s + k)) (hFl m (p + 1))))), some (.int (vI (plY a b c s k))), o13, o14, o15] [.int S] (shR, J, lmL L X Y Z, pR) = jv (e + 3) 311 35 [some (.ref 0), some (.int (nI p)), some (.int (vI a)), some (.int (vI b)), some (.int (vI c)), some (.int (nI (152 + p * 8))), some (.long (lI wt)), none, some (.int (nI (s + 1))), some (.int (vI (wV (64 * mv m (16 + s * 9)) (hRf m (p + 1))))), o10, p11, p12, p13, p14, p15] [] (shR, J, lmL L (X + (gL m p a b c 1 s k + sZ (gL m p a b c 1 s) (k + 1) r) * wt) (Y + (gL m p a b c 2 s k + sZ (gL m p a b c 2 s) (k + 1) r) * wt) (Z + (gL m p a b c 3 s k + sZ (gL m p a b c 3 s) (k + 1) r) * wt), pR) := by
        intro S hS
        rw [B311_132, hS]
        have e1 : gL m p a b c 1 s k = wP (wL (hLo m (16 * s + k)) (hFl m (p + 1))) (wU (hHi m (16 * s + k)) (hRf m (p + 1)) (plY a b c s k)) * (2 * s - 15) := by
          unfold gL gC; rw [if_neg (by decide), if_pos rfl, Int.mul_one]
        have e2 : gL m p a b c 2 s k = wP (wL (hLo m (16 * s + k)) (hFl m (p + 1))) (wU (hHi m (16 * s + k)) (hRf m (p + 1)) (plY a b c s k)) * (2 * k - 15) := by
          unfold gL gC; rw [if_neg (by decide), if_neg (by decide), if_pos rfl, Int.mul_one]
        have e3 : gL m p a b c 3 s k = wM (wL (hLo m (16 * s + k)) (hFl m (p + 1))) (wU (hHi m (16 * s + k)) (hRf m (p + 1)) (plY a b c s k)) := by
          unfold gL gC; rw [if_neg (by decide), if_neg (by decide), if_neg (by decide), Int.mul_one]
        have lb : 0 ≤ wL (hLo m (16 * s + k)) (hFl m (p + 1)) ∧ wL (hLo m (16 * s + k)) (hFl m (p + 1)) ≤ 128000 := by unfold wL; split <;> omega
        have ub : -300000 ≤ wU (hHi m (16 * s + k)) (hRf m (p + 1)) (plY a b c s k) ∧ wU (hHi m (16 * s + k)) (hRf m (p + 1)) (plY a b c s k) ≤ 300000 := by unfold wU; (repeat' split) <;> omega
        rw [Int.add_mul, Int.add_mul, Int.add_mul, ← Int.add_assoc, ← Int.add_assoc, ← Int.add_assoc, e1, e2, e3]
        generalize wL (hLo m (16 * s + k)) (hFl m (p + 1)) = lw at *
        generalize wU (hHi m (16 * s + k)) (hRf m (p + 1)) (plY a b c s k) = up at *
        have r83 : lmL L X Y Z 0 83 = lI X := by rw [lmL_own]; rfl
        have r84 : lmL L X Y Z 0 84 = lI Y := by rw [lmL_own]; rfl
        have r85 : lmL L X Y Z 0 85 = lI Z := by rw [lmL_own]; rfl
        by_cases z : lw < up
        · rw [if_pos ((vI_lt (by omega) (by omega) (by omega) (by omega)).mpr z), B311_210, vI_sub, vI_add, vI_64 (z := up - lw) (by omega) (by omega), vI_64 (z := lw + up) (by omega) (by omega), d64 hs, d64 hk, nI_1, show wP lw up = up - lw from if_pos z, show wM lw up = (up - lw) * (lw + up) from if_pos z]
          rw [j_up_own, j_up_own, j_up_own, if_neg (by decide), if_neg (by decide), if_neg (by decide), r83, r84, r85, lI_mul, lI_mul, lI_mul, lI_mul, lI_add, lI_add, lI_add]
          have fold : j_up (j_up (j_up (lmL L X Y Z) 0 83 (lI (X + (up - lw) * wt * (2 * s - 15)))) 0 84 (lI (Y + (up - lw) * wt * (2 * k - 15)))) 0 85 (lI (Z + (up - lw) * wt * (lw + up))) = lmL L (X + (up - lw) * wt * (2 * s - 15)) (Y + (up - lw) * wt * (2 * k - 15)) (Z + (up - lw) * wt * (lw + up)) := lmL_lmL _ _ _ _ _ _
          rw [fold, Int.mul_right_comm (up - lw) (2 * (s : Int) - 15) wt, Int.mul_right_comm (up - lw) (2 * (k : Int) - 15) wt, Int.mul_right_comm (up - lw) (lw + up) wt]
          exact ih (k + 1) _ _ _ _ _ _ _ _ (by omega) (by omega)
        · rw [if_neg (fun y => z ((vI_lt (by omega) (by omega) (by omega) (by omega)).mp y)), B311_210, nI_1, show wP lw up = 0 from if_neg z, show wM lw up = 0 from if_neg z]
          simp only [Int.zero_mul, Int.add_zero]
          exact ih (k + 1) _ _ _ _ _ _ _ _ (by omega) (by omega)
      by_cases z : vI (plY a b c s k) < vI (wV (64 * mv m (16 + s * 9)) (hRf m (p + 1)))
      · rw [if_pos z] at ht ⊢
        exact st _ ht
      · rw [if_neg z] at ht ⊢
        exact st _ ht
  have row : ∀ (r s : Nat) (X Y Z : Int) (o9 o10 o11 o12 o13 o14 o15 : Option Value), r = f2 + 1 - s → s ≤ 16 → jv (e + 3) 311 35 [some (.ref 0), some (.int (nI p)), some (.int (vI a)), some (.int (vI b)), some (.int (vI c)), some (.int (nI (152 + p * 8))), some (.long (lI wt)), none, some (.int (nI s)), o9, o10, o11, o12, o13, o14, o15] [] (shR, J, lmL L X Y Z, pR) = some (none, (shR, J, lmL L (X + sZ (fun s => sZ (gL m p a b c 1 s) f3 (f4 + 1 - f3)) s r * wt) (Y + sZ (fun s => sZ (gL m p a b c 2 s) f3 (f4 + 1 - f3)) s r * wt) (Z + sZ (fun s => sZ (gL m p a b c 3 s) f3 (f4 + 1 - f3)) s r * wt), pR)) := by
    intro r
    induction r with
    | zero =>
      intro s X Y Z o9 o10 o11 o12 o13 o14 o15 hr s16
      rw [B311_35, show nI (152 + p * 8) + 2 = nI (154 + p * 8) from ee 2, if_pos (jj 2 (by decide)), nI_clamp (n := 154 + p * 8) (by omega), h.2.1 _ (by omega), m2, if_pos (nI_lt (by omega) (by omega))]
      show _ = some (none, (shR, J, lmL L (X + 0 * wt) (Y + 0 * wt) (Z + 0 * wt), pR))
      rw [Int.zero_mul, Int.add_zero, Int.add_zero, Int.add_zero]
    | succ r ih =>
      intro s X Y Z o9 o10 o11 o12 o13 o14 o15 hr s16
      have hs : s < 16 := by omega
      rw [B311_35, show nI (152 + p * 8) + 2 = nI (154 + p * 8) from ee 2, if_pos (jj 2 (by decide)), nI_clamp (n := 154 + p * 8) (by omega), h.2.1 _ (by omega), m2, if_neg (nI_nlt (by omega) (by omega)), jgo_some (d := e + 2) rfl (high_r (e := e + 1) h hp hs)]
      dsimp only [Option.toList_some, List.cons_append, List.nil_append]
      rw [B311_56, show nI (152 + p * 8) + 3 = nI (155 + p * 8) from ee 3, if_pos (jj 3 (by decide)), nI_clamp (n := 155 + p * 8) (by omega), h.2.1 _ (by omega), m3]
      obtain ⟨q10, q11, q12, q13, q14, q15, ce⟩ := col hs (f4 + 1 - f3) f3 X Y Z o11 o12 o13 o14 o15 rfl (by omega)
      rw [ce, ih (s + 1) _ _ _ _ _ _ _ _ _ _ (by omega) (by omega), sZ_front, sZ_front, sZ_front, Int.add_mul, Int.add_mul, Int.add_mul, Int.add_assoc, Int.add_assoc, Int.add_assoc]
  rw [B311_0, g_at_2_0 h.2.2.2]
  dsimp only [Option.toList_some, List.cons_append, List.nil_append]
  rw [B311_7, g_at_4_1 h.2.2.2]
  dsimp only [Option.toList_some, List.cons_append, List.nil_append]
  rw [B311_20, if_pos (j_in_nI (by omega) (by decide)), nI_clamp (n := 401 + p * 2) (by omega), h.2.1 (401 + p * 2) (by omega), m64, hwt, show nI (152 + p * 8) + 1 = nI (153 + p * 8) from ee 1, if_pos (jj 1 (by decide)), nI_clamp (n := 153 + p * 8) (by omega), h.2.1 _ (by omega), m1, row (f2 + 1 - f1) f1 X Y Z none none none none none none none rfl (by omega)]
  unfold LW
  rw [g1, g2, g3, g4]
end SEAY
