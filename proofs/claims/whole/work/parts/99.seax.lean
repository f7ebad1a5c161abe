/-! SEA: a liquid, second one -/
section SEAX
variable {d e : Nat} {I J : Nat → Nat → Int32} {L L' : Nat → Nat → Int64} {m : Nat → Int32} {o : Nat}
theorem sZ_front (f : Nat → Int) (a r : Nat) : sZ f a (r + 1) = f a + sZ f (a + 1) r := by
  rw [Nat.add_comm r 1, sZ_split]
  show 0 + f (a + 0) + _ = _
  rw [Int.zero_add, Nat.add_zero]
theorem mv_b (m : Nat → Int32) (x : Nat) : -2147483648 ≤ mv m x ∧ mv m x < 2147483648 := ⟨Int32.le_toInt (m x), Int32.toInt_lt (m x)⟩
theorem m64 (m : Nat → Int32) (x : Nat) : (m x).toInt64 = lI (mv m x) := by
  have := mv_b m x
  exact Eq.trans (congrArg Int32.toInt64 (mv_v m x)) (vI_64 this.1 this.2)
theorem hHi_k {s k : Nat} (hk : k < 16) : hHi m (16 * s + k) = 64 * mv m (16 + s * 9) := by
  unfold hHi; rw [show (16 * s + k) / 16 = s by omega, show 8 + s * 9 + 8 = 16 + s * 9 by omega]
theorem v64m (m : Nat → Int32) (x : Nat) : (64 : Int32) * m x = vI (64 * mv m x) := by
  rw [← vI_mul, ← mv_v]; rfl
theorem low_r (h : mQ m I J) {p s k : Nat} (hp : p < 16) (hs : s < 16) (hk : k < 16) : jv (e + 2) 304 0 [some (.ref 0), some (.int (nI p)), some (.int (nI s)), some (.int (nI k)), none, none] [] (shR, J, L, pR) = some (some (.int (vI (wL (hLo m (16 * s + k)) (hFl m (p + 1))))), (shR, J, L, pR)) := by
  obtain ⟨l0, l1, l2, l3⟩ := h.lo (i := 16 * s + k) (by omega)
  obtain ⟨-, -, -, -, x5, x6, x7, x8⟩ := h.sp (q := p + 1) (by omega)
  have e1 : hLo m (16 * s + k) = 64 * mv m (8 + s * 9 + btX k) := by unfold hLo; rw [show (16 * s + k) / 16 = s by omega, show (16 * s + k) % 16 = k by omega]
  have e2 : hFl m (p + 1) = 64 * mv m (157 + p * 8) := by unfold hFl; rw [if_neg (by omega), Nat.add_sub_cancel]
  rw [B304_0, jgo_some (d := e + 1) rfl (btmQ_r h hs hk)]
  dsimp only [Option.toList_some, List.cons_append, List.nil_append]
  rw [B304_12, v64m, ← e1, g_at_2_5 h.2.2.2]
  dsimp only [Option.toList_some, List.cons_append, List.nil_append]
  rw [B304_28, if_pos (j_in_nI (by omega) (by decide)), nI_clamp (by omega), h.2.1 _ (by omega), v64m, ← e2]
  unfold wL
  by_cases z : hFl m (p + 1) < hLo m (16 * s + k)
  · rw [if_pos ((vI_lt (by omega) (by omega) (by omega) (by omega)).mpr z), if_pos z, B304_46]
  · rw [if_neg (fun y => z ((vI_lt (by omega) (by omega) (by omega) (by omega)).mp y)), if_neg z, B304_46]
theorem high_r (h : mQ m I J) {p s : Nat} (hp : p < 16) (hs : s < 16) : jv (e + 1) 305 0 [some (.ref 0), some (.int (nI p)), some (.int (nI s)), none, none] [] (shR, J, L, pR) = some (some (.int (vI (wV (64 * mv m (16 + s * 9)) (hRf m (p + 1))))), (shR, J, L, pR)) := by
  obtain ⟨l0, l1, l2, l3⟩ := h.lo (i := 16 * s + 0) (by omega)
  rw [hHi_k (by decide)] at l2 l3
  obtain ⟨-, -, -, -, x5, x6, x7, x8⟩ := h.sp (q := p + 1) (by omega)
  have e2 : hRf m (p + 1) = 64 * mv m (158 + p * 8) := by unfold hRf; rw [if_neg (by omega), Nat.add_sub_cancel]
  rw [B305_0, g_at_1_8 h.2.2.2]
  dsimp only [Option.toList_some, List.cons_append, List.nil_append]
  rw [B305_14, if_pos (j_in_nI (by omega) (by decide)), nI_clamp (by omega), h.2.1 _ (by omega), v64m, g_at_2_6 h.2.2.2]
  dsimp only [Option.toList_some, List.cons_append, List.nil_append]
  rw [B305_31, if_pos (j_in_nI (by omega) (by decide)), nI_clamp (by omega), h.2.1 _ (by omega), v64m, ← e2]
  unfold wV
  by_cases z : 64 * mv m (16 + s * 9) < hRf m (p + 1)
  · rw [if_pos ((vI_lt (by omega) (by omega) (by omega) (by omega)).mpr z), if_pos z, B305_47]
  · rw [if_neg (fun y => z ((vI_lt (by omega) (by omega) (by omega) (by omega)).mp y)), if_neg z, B305_47]
/-- a column of a space: where it ends below a plane -/
theorem wU_V (hi rf pl : Int) : wU hi rf pl = if pl < wV hi rf then pl else wV hi rf := rfl
theorem points_r (h : mQ m I J) {p : Nat} (hp : p < 16) {a b c : Int} (ha : -200001 ≤ a ∧ a ≤ 200001) (hb : -2048 ≤ b ∧ b ≤ 2048) (hc : -2048 ≤ c ∧ c ≤ 2048) : jv (e + 3) 306 0 [some (.ref 0), some (.int (nI p)), some (.int (vI a)), some (.int (vI b)), some (.int (vI c)), none, none, none, none, none, none, none, none, none] [] (shR, J, L, pR) = some (some (.long (lI (LW m p 0 a b c))), (shR, J, L, pR)) := by
  obtain ⟨f0, f1, f2, f3, f4, f5, f6, a0, a1, a2, a3, a4, a5, a6, m0, m1, m2, m3, m4, m5, m6⟩ := h.space hp
  have ee : ∀ x, nI (152 + p * 8) + nI x = nI (152 + x + p * 8) := fun x => by rw [nI_add, show 152 + p * 8 + x = 152 + x + p * 8 by omega]
  have jj : ∀ x, x < 8 → j_in (nI (152 + x + p * 8)) 1189 = true := fun x hx => j_in_nI (by omega) (by decide)
  obtain ⟨y1, y2, y3, y4, x5, x6, x7, x8⟩ := h.sp (q := p + 1) (by omega)
  have g1 : hSF m (p + 1) = f1 := by unfold hSF; rw [if_neg (by omega), Nat.add_sub_cancel, mN_n m1 (by omega)]
  have g2 : hST m (p + 1) = f2 := by unfold hST; rw [if_neg (by omega), Nat.add_sub_cancel, mN_n m2 (by omega)]
  have g3 : hCF m (p + 1) = f3 := by unfold hCF; rw [if_neg (by omega), Nat.add_sub_cancel, mN_n m3 (by omega)]
  have g4 : hCT m (p + 1) = f4 := by unfold hCT; rw [if_neg (by omega), Nat.add_sub_cancel, mN_n m4 (by omega)]
  have col : ∀ {s : Nat}, s < 16 → ∀ (r k : Nat) (A : Int) (o11 o12 o13 : Option Value), r = f4 + 1 - k → k ≤ 16 → ∃ o10 p11 p12 p13, jv (e + 3) 306 57 [some (.ref 0), some (.int (nI p)), some (.int (vI a)), some (.int (vI b)), some (.int (vI c)), some (.long (lI A)), none, some (.int (nI (152 + p * 8))), some (.int (nI s)), some (.int (vI (wV (64 * mv m (16 + s * 9)) (hRf m (p + 1))))), some (.int (nI k)), o11, o12, o13] [] (shR, J, L, pR) = jv (e + 3) 306 23 [some (.ref 0), some (.int (nI p)), some (.int (vI a)), some (.int (vI b)), some (.int (vI c)), some (.long (lI (A + sZ (fun k => gC (hLo m) (hHi m) (hFl m) (hRf m) (fun _ => 1) a b c 0 (p + 1) s k) k r))), none, some (.int (nI (152 + p * 8))), some (.int (nI (s + 1))), some (.int (vI (wV (64 * mv m (16 + s * 9)) (hRf m (p + 1))))), o10, p11, p12, p13] [] (shR, J, L, pR) := by
    intro s hs r
    induction r with
    | zero =>
      intro k A o11 o12 o13 hr k16
      refine ⟨some (.int (nI k)), o11, o12, o13, ?_⟩
      rw [B306_57, show nI (152 + p * 8) + 4 = nI (156 + p * 8) from ee 4, if_pos (jj 4 (by decide)), nI_clamp (n := 156 + p * 8) (by omega), h.2.1 _ (by omega), m4]
      rw [if_pos (nI_lt (by omega) (by omega)), nI_1]
      show _ = jv _ _ _ [_, _, _, _, _, some (Value.long (lI (A + 0))), _, _, _, _, _, _, _, _] _ _
      rw [Int.add_zero]
    | succ r ih =>
      intro k A o11 o12 o13 hr k16
      have hk : k < 16 := by omega
      obtain ⟨l0, l1, l2, l3⟩ := h.lo (i := 16 * s + k) (by omega)
      have pb := plY_b (s := s) (k := k) ha hb hc hs hk
      rw [B306_57, show nI (152 + p * 8) + 4 = nI (156 + p * 8) from ee 4, if_pos (jj 4 (by decide)), nI_clamp (n := 156 + p * 8) (by omega), h.2.1 _ (by omega), m4, if_neg (nI_nlt (by omega) (by omega)), jgo_some (d := e + 2) rfl (low_r h hp hs hk)]
      dsimp only [Option.toList_some, List.cons_append, List.nil_append]
      rw [B306_80, plY_v, sZ_front]
      have ht : (if vI (plY a b c s k) < vI (wV (64 * mv m (16 + s * 9)) (hRf m (p + 1))) then vI (plY a b c s k) else vI (wV (64 * mv m (16 + s * 9)) (hRf m (p + 1)))) = vI (wU (hHi m (16 * s + k)) (hRf m (p + 1)) (plY a b c s k)) := by
        rw [hHi_k hk, wU_V]
        have vb : 0 ≤ wV (64 * mv m (16 + s * 9)) (hRf m (p + 1)) ∧ wV (64 * mv m (16 + s * 9)) (hRf m (p + 1)) ≤ 200000 := by
          rw [hHi_k hk] at l2 l3; unfold wV; split <;> omega
        by_cases z : plY a b c s k < wV (64 * mv m (16 + s * 9)) (hRf m (p + 1))
        · rw [if_pos ((vI_lt (by omega) (by omega) (by omega) (by omega)).mpr z), if_pos z]
        · rw [if_neg (fun y => z ((vI_lt (by omega) (by omega) (by omega) (by omega)).mp y)), if_neg z]
      have st : ∀ (S : Int32), S = vI (wU (hHi m (16 * s + k)) (hRf m (p + 1)) (plY a b c s k)) → ∃ o10 p11 p12 p13, jv (e + 3) 306 120 [some (.ref 0), some (.int (nI p)), some (.int (vI a)), some (.int (vI b)), some (.int (vI c)), some (.long (lI A)), none, some (.int (nI (152 + p * 8))), some (.int (nI s)), some (.int (vI (wV (64 * mv m (16 + s * 9)) (hRf m (p + 1))))), some (.int (nI k)), some (.int (vI (wL (hLo m (16 * s + k)) (hFl m (p + 1))))), some (.int (vI (plY a b c s k))), o13] [.int S] (shR, J, L, pR) = jv (e + 3) 306 23 [some (.ref 0), some (.int (nI p)), some (.int (vI a)), some (.int (vI b)), some (.int (vI c)), some (.long (lI (A + (gC (hLo m) (hHi m) (hFl m) (hRf m) (fun _ => 1) a b c 0 (p + 1) s k + sZ (fun k => gC (hLo m) (hHi m) (hFl m) (hRf m) (fun _ => 1) a b c 0 (p + 1) s k) (k + 1) r)))), none, some (.int (nI (152 + p * 8))), some (.int (nI (s + 1))), some (.int (vI (wV (64 * mv m (16 + s * 9)) (hRf m (p + 1))))), o10, p11, p12, p13] [] (shR, J, L, pR) := by
        intro S hS
        rw [B306_120, hS]
        have g0 : gC (hLo m) (hHi m) (hFl m) (hRf m) (fun _ => 1) a b c 0 (p + 1) s k = wP (wL (hLo m (16 * s + k)) (hFl m (p + 1))) (wU (hHi m (16 * s + k)) (hRf m (p + 1)) (plY a b c s k)) := by
          unfold gC; rw [if_pos rfl, Int.mul_one]
        have lb : 0 ≤ wL (hLo m (16 * s + k)) (hFl m (p + 1)) ∧ wL (hLo m (16 * s + k)) (hFl m (p + 1)) ≤ 128000 := by unfold wL; split <;> omega
        have ub : -300000 ≤ wU (hHi m (16 * s + k)) (hRf m (p + 1)) (plY a b c s k) ∧ wU (hHi m (16 * s + k)) (hRf m (p + 1)) (plY a b c s k) ≤ 300000 := by unfold wU; (repeat' split) <;> omega
        rw [← Int.add_assoc, g0]
        generalize wL (hLo m (16 * s + k)) (hFl m (p + 1)) = lw at *
        generalize wU (hHi m (16 * s + k)) (hRf m (p + 1)) (plY a b c s k) = up at *
        by_cases z : lw < up
        · rw [if_pos ((vI_lt (by omega) (by omega) (by omega) (by omega)).mpr z), B306_141, vI_sub, vI_64 (z := up - lw) (by omega) (by omega), lI_add, nI_1, show wP lw up = up - lw from if_pos z]
          exact ih (k + 1) _ _ _ _ (by omega) (by omega)
        · rw [if_neg (fun y => z ((vI_lt (by omega) (by omega) (by omega) (by omega)).mp y)), B306_141, show (0 : Int64) = lI 0 from rfl, lI_add, nI_1, show wP lw up = 0 from if_neg z]
          exact ih (k + 1) _ _ _ _ (by omega) (by omega)
      by_cases z : vI (plY a b c s k) < vI (wV (64 * mv m (16 + s * 9)) (hRf m (p + 1)))
      · rw [if_pos z] at ht ⊢
        exact st _ ht
      · rw [if_neg z] at ht ⊢
        exact st _ ht
  have row : ∀ (r s : Nat) (A : Int) (o9 o10 o11 o12 o13 : Option Value), r = f2 + 1 - s → s ≤ 16 → jv (e + 3) 306 23 [some (.ref 0), some (.int (nI p)), some (.int (vI a)), some (.int (vI b)), some (.int (vI c)), some (.long (lI A)), none, some (.int (nI (152 + p * 8))), some (.int (nI s)), o9, o10, o11, o12, o13] [] (shR, J, L, pR) = some (some (.long (lI (A + sZ (fun s => sZ (fun k => gC (hLo m) (hHi m) (hFl m) (hRf m) (fun _ => 1) a b c 0 (p + 1) s k) f3 (f4 + 1 - f3)) s r))), (shR, J, L, pR)) := by
    intro r
    induction r with
    | zero =>
      intro s A o9 o10 o11 o12 o13 hr s16
      rw [B306_23, show nI (152 + p * 8) + 2 = nI (154 + p * 8) from ee 2, if_pos (jj 2 (by decide)), nI_clamp (n := 154 + p * 8) (by omega), h.2.1 _ (by omega), m2, if_pos (nI_lt (by omega) (by omega))]
      show _ = some (some (Value.long (lI (A + 0))), _)
      rw [Int.add_zero]
    | succ r ih =>
      intro s A o9 o10 o11 o12 o13 hr s16
      have hs : s < 16 := by omega
      rw [B306_23, show nI (152 + p * 8) + 2 = nI (154 + p * 8) from ee 2, if_pos (jj 2 (by decide)), nI_clamp (n := 154 + p * 8) (by omega), h.2.1 _ (by omega), m2, if_neg (nI_nlt (by omega) (by omega)), jgo_some (d := e + 2) rfl (high_r (e := e + 1) h hp hs)]
      dsimp only [Option.toList_some, List.cons_append, List.nil_append]
      rw [B306_44, show nI (152 + p * 8) + 3 = nI (155 + p * 8) from ee 3, if_pos (jj 3 (by decide)), nI_clamp (n := 155 + p * 8) (by omega), h.2.1 _ (by omega), m3]
      obtain ⟨q10, q11, q12, q13, ce⟩ := col hs (f4 + 1 - f3) f3 A o11 o12 o13 rfl (by omega)
      rw [ce, ih (s + 1) _ _ _ _ _ _ (by omega) (by omega), sZ_front, Int.add_assoc]
  rw [B306_0, g_at_2_0 h.2.2.2]
  dsimp only [Option.toList_some, List.cons_append, List.nil_append]
  rw [B306_10, show nI (152 + p * 8) + 1 = nI (153 + p * 8) from ee 1, if_pos (jj 1 (by decide)), nI_clamp (n := 153 + p * 8) (by omega), h.2.1 _ (by omega), m1, show (0 : Int64) = lI 0 from rfl, row (f2 + 1 - f1) f1 0 none none none none none rfl (by omega)]
  unfold LW
  rw [g1, g2, g3, g4, Int.zero_add]
end SEAX
