/-! SEA: the moments of all weights, second one -/
section SEBA
variable {d e : Nat} {I J : Nat → Nat → Int32} {L L' : Nat → Nat → Int64} {m : Nat → Int32} {o : Nat}
theorem liq_ex (h : mQ m I J) {p : Nat} (hp : p < 16) {b c : Int} (hb : -2048 ≤ b ∧ b ≤ 2048) (hc : -2048 ≤ c ∧ c ≤ 2048) {be : Int} (hl : lvI (fun a => LW m p 0 a b c) (64 * mv m (400 + p * 2)) be (be + 1)) : liqL m p b c = be := lvl_eq (fun _ _ ha => LW_mono b c ha) hl
/-- a liquid's level, second one -/
theorem liq_r (h : mQ m I J) {p : Nat} (hp : p < 16) {b c : Int} (hb : -2048 ≤ b ∧ b ≤ 2048) (hc : -2048 ≤ c ∧ c ≤ 2048) : jv (e + 4) 308 0 [some (.ref 0), some (.int (nI p)), some (.int (vI b)), some (.int (vI c)), none, none, none, none, none] [] (shR, J, L, pR) = some (some (.int (vI (liqL m p b c))), (shR, J, L, pR)) ∧ -100000 ≤ liqL m p b c ∧ liqL m p b c ≤ 200000 ∧ LW m p 0 (liqL m p b c) b c ≤ 64 * mv m (400 + p * 2) := by
  obtain ⟨x, y, x1, y1, n0, n1⟩ := h.fill hp
  have e0 : (64 * mv m (400 + p * 2) : Int) = 64 * x := by rw [mv_n n0 (by omega)]
  obtain ⟨be, b1, b2⟩ := liquid_r (e := e + 3) (J := J) (L := L) (M := fun a => LW m p 0 a b c) (most := 64 * mv m (400 + p * 2)) (b := b) (c := c) (p := p) (x := x) (fun a a1 a2 => points_r (e := e) h hp ⟨a1, a2⟩ hb hc) (fun a _ _ => by have := LW_b h hp a b c; exact ⟨by omega, by omega⟩) (by rw [e0]; omega) hp h.2.2.2 (by rw [h.2.1 _ (by omega), n0]) x1 e0 (by show LW m p 0 (-100000) b c ≤ _; rw [LW_low h hb hc hp, e0]; omega)
  rw [liq_ex h hp hb hc b2]
  obtain ⟨c1, c2, c3, c4, c5⟩ := b2
  exact ⟨b1, c1, by omega, c4⟩
theorem moments_r (h : mQ m I J) (ho : J 0 62 = nI o) {b c : Int} (hb : -2048 ≤ b ∧ b ≤ 2048) (hc : -2048 ≤ c ∧ c ≤ 2048) : jv (e + 5) 310 0 [some (.ref 0), some (.int (vI b)), some (.int (vI c)), none, none, none, none, none] [] (shR, J, L, pR) = some (none, (shR, J, lmL L (WW m o 1 b c) (WW m o 2 b c) (WW m o 3 b c), pR)) := by
  have l1 : ∀ (r k : Nat) (X Y Z : Int) (o4 o5 o6 o7 : Option Value), k + r = 24 → ∃ p4 p5 p6 p7, jv (e + 5) 310 17 [some (.ref 0), some (.int (vI b)), some (.int (vI c)), some (.int (nI k)), o4, o5, o6, o7] [] (shR, J, lmL L X Y Z, pR) = jv (e + 5) 310 163 [some (.ref 0), some (.int (vI b)), some (.int (vI c)), some (.int (nI 0)), p4, p5, p6, p7] [] (shR, J, lmL L (X + sZ (gWt m 1) k r) (Y + sZ (gWt m 2) k r) (Z + sZ (gWt m 3) k r), pR) := by
    intro r
    induction r with
    | zero =>
      intro k X Y Z o4 o5 o6 o7 hk
      refine ⟨o4, o5, o6, o7, ?_⟩
      rw [B310_17, if_neg (show ¬ nI k < 24 from nI_nlt (b := 24) (by omega) (by omega))]
      show _ = jv _ _ _ _ _ (shR, J, lmL L (X + 0) (Y + 0) (Z + 0), pR)
      rw [Int.add_zero, Int.add_zero, Int.add_zero]; rfl
    | succ r ih =>
      intro k X Y Z o4 o5 o6 o7 hk
      obtain ⟨w, f1, f2, f4, w1, b1, b2, b4, n0, n1, n2, n4⟩ := h.wt (k := k) (by omega)
      have ee : ∀ x, nI (280 + k * 5) + nI x = nI (280 + x + k * 5) := fun x => by rw [nI_add, show 280 + k * 5 + x = 280 + x + k * 5 by omega]
      have jj : ∀ x, x < 8 → j_in (nI (280 + x + k * 5)) 1189 = true := fun x hx => j_in_nI (by omega) (by decide)
      have slice : ∀ (r s : Nat) (X Y Z : Int) (o6 o7 : Option Value), 0 < w → s ≤ 16 → r = f2 + 1 - s → ∃ (p5 : Int32) (p6 p7 : Option Value), jv (e + 5) 310 43 [some (.ref 0), some (.int (vI b)), some (.int (vI c)), some (.int (nI k)), some (.int (nI (280 + k * 5))), some (.int (nI s)), o6, o7] [] (shR, J, lmL L X Y Z, pR) = jv (e + 5) 310 155 [some (.ref 0), some (.int (vI b)), some (.int (vI c)), some (.int (nI k)), some (.int (nI (280 + k * 5))), some (.int p5), p6, p7] [] (shR, J, lmL L (X + sZ (fWt m 1 k) s r) (Y + sZ (fWt m 2 k) s r) (Z + sZ (fWt m 3 k) s r), pR) := by
        intro r
        induction r with
        | zero =>
          intro s X Y Z o6 o7 w0 hs hr
          refine ⟨nI s, o6, o7, ?_⟩
          rw [B310_43, show nI (280 + k * 5) + 2 = nI (282 + k * 5) from ee 2, if_pos (jj 2 (by decide)), nI_clamp (n := 282 + k * 5) (by omega), h.2.1 _ (by omega), n2, if_pos (nI_lt (by omega) (by omega))]
          show _ = jv _ _ _ _ _ (shR, J, lmL L (X + 0) (Y + 0) (Z + 0), pR)
          rw [Int.add_zero, Int.add_zero, Int.add_zero]
        | succ r ih =>
          intro s X Y Z o6 o7 w0 hs hr
          have r83 : lmL L X Y Z 0 83 = lI X := by rw [lmL_own]; rfl
          have r84 : lmL L X Y Z 0 84 = lI Y := by rw [lmL_own]; rfl
          have r85 : lmL L X Y Z 0 85 = lI Z := by rw [lmL_own]; rfl
          have v0 : (nI w).toInt64 = lI (mv m (280 + k * 5)) := by rw [← n0, m64]
          rw [B310_43, show nI (280 + k * 5) + 2 = nI (282 + k * 5) from ee 2, if_pos (jj 2 (by decide)), nI_clamp (n := 282 + k * 5) (by omega), h.2.1 (282 + k * 5) (by omega), n2, if_neg (nI_nlt (by omega) (by omega)), if_pos (show j_in (nI (280 + k * 5)) 1189 = true from jj 0 (by decide)), nI_clamp (n := 280 + k * 5) (by omega), h.2.1 (280 + k * 5) (by omega), n0, if_pos (show (0 : Int32) < nI w from nI_lt (a := 0) w0 (by omega)), if_pos (show j_in (nI (280 + k * 5)) 1189 = true from jj 0 (by decide)), show nI (280 + k * 5) + 3 = nI (283 + k * 5) from ee 3, if_pos (jj 3 (by decide)), show nI (280 + k * 5) + 4 = nI (284 + k * 5) from ee 4, if_pos (jj 4 (by decide)), nI_clamp (n := 283 + k * 5) (by omega), nI_clamp (n := 284 + k * 5) (by omega), h.2.1 (283 + k * 5) (by omega), h.2.1 (284 + k * 5) (by omega), m64 m (283 + k * 5), m64 m (284 + k * 5), v0, d64 (show s < 16 by omega), show (1024 : Int64) = lI 1024 from rfl, show (128 : Int64) = lI 128 from rfl]
          rw [j_up_own, j_up_own, j_up_own, if_neg (by decide), if_neg (by decide), if_neg (by decide), r83, r84, r85, lI_mul, lI_mul, lI_mul, lI_mul, lI_mul, lI_add, lI_add, lI_add, sZ_front, sZ_front, sZ_front]
          have fold : ∀ x y z : Int, j_up (j_up (j_up (lmL L X Y Z) 0 83 (lI x)) 0 84 (lI y)) 0 85 (lI z) = lmL L x y z := fun x y z => lmL_lmL _ _ _ _ _ _
          rw [fold, nI_1, ← Int.add_assoc, ← Int.add_assoc, ← Int.add_assoc]
          exact ih (s + 1) _ _ _ _ _ w0 (by omega) (by omega)
      rw [B310_17, if_pos (show nI k < 24 from nI_lt (b := 24) (by omega) (by decide)), g_at_3_0 h.2.2.2]
      dsimp only [Option.toList_some, List.cons_append, List.nil_append]
      rw [B310_30, show nI (280 + k * 5) + 1 = nI (281 + k * 5) from ee 1, if_pos (jj 1 (by decide)), nI_clamp (n := 281 + k * 5) (by omega), h.2.1 _ (by omega), n1, sZ_front, sZ_front, sZ_front]
      by_cases w0 : 0 < w
      · have en : ∀ u, gWt m u k = sZ (fWt m u k) f1 (f2 + 1 - f1) := fun u => by
          unfold gWt nWt
          rw [mv_n n0 (by omega), if_pos (show (0 : Int) < w by omega), mN_n n1 (by omega), mN_n n2 (by omega)]
        obtain ⟨p5, p6, p7, q⟩ := slice (f2 + 1 - f1) f1 X Y Z o6 o7 w0 (by omega) rfl
        rw [q, B310_155, nI_1, ← en, ← en, ← en, ← Int.add_assoc, ← Int.add_assoc, ← Int.add_assoc]
        exact ih (k + 1) _ _ _ _ _ _ _ (by omega)
      · have en : ∀ u, gWt m u k = 0 := fun u => by
          unfold gWt nWt
          rw [mv_n n0 (by omega), if_neg (show ¬ (0 : Int) < w by omega)]
          rfl
        rw [en, en, en, Int.zero_add, Int.zero_add, Int.zero_add, B310_43, show nI (280 + k * 5) + 2 = nI (282 + k * 5) from ee 2, if_pos (jj 2 (by decide)), nI_clamp (n := 282 + k * 5) (by omega), h.2.1 (282 + k * 5) (by omega), n2, if_pos (show j_in (nI (280 + k * 5)) 1189 = true from jj 0 (by decide)), nI_clamp (n := 280 + k * 5) (by omega), h.2.1 (280 + k * 5) (by omega), n0, if_neg (show ¬ (0 : Int32) < nI w from nI_nlt (a := 0) (by omega) (by decide)), ite_self, B310_155, nI_1]
        exact ih (k + 1) _ _ _ _ _ _ _ (by omega)
  have l2 : ∀ (r p : Nat) (X Y Z : Int) (o4 o5 o6 o7 : Option Value), p + r = 16 → jv (e + 5) 310 163 [some (.ref 0), some (.int (vI b)), some (.int (vI c)), some (.int (nI p)), o4, o5, o6, o7] [] (shR, J, lmL L X Y Z, pR) = some (none, (shR, J, lmL L (X + sZ (gWW m o 1 b c) p r) (Y + sZ (gWW m o 2 b c) p r) (Z + sZ (gWW m o 3 b c) p r), pR)) := by
    intro r
    induction r with
    | zero =>
      intro p X Y Z o4 o5 o6 o7 hp
      rw [B310_163, if_neg (show ¬ nI p < 16 from nI_nlt (b := 16) (by omega) (by omega))]
      show _ = some (none, (shR, J, lmL L (X + 0) (Y + 0) (Z + 0), pR))
      rw [Int.add_zero, Int.add_zero, Int.add_zero]
    | succ r ih =>
      intro p X Y Z o4 o5 o6 o7 hp
      have hp16 : p < 16 := by omega
      rw [B310_163, if_pos (show nI p < 16 from nI_lt (b := 16) (by omega) (by decide)), jgo_some (d := e + 4) rfl (hasl_r (e := e + 3) h ho hp16), sZ_front, sZ_front, sZ_front]
      dsimp only [Option.toList_some, List.cons_append, List.nil_append]
      rw [B310_174]
      by_cases z : hasL m o p
      · obtain ⟨q1, q2, q3, -⟩ := liq_r (e := e) (L := lmL L X Y Z) h hp16 hb hc
        have eg : ∀ u, gWW m o u b c p = LW m p u (liqL m p b c) b c * mv m (401 + p * 2) := fun u => if_pos z
        rw [if_pos z, if_neg (show ¬ (1 : Int32) = 0 by decide), jgo_some (d := e + 4) rfl q1, eg, eg, eg]
        dsimp only [Option.toList_some, List.cons_append, List.nil_append]
        rw [B310_186, jgo_some (d := e + 4) rfl (lmom_r (e := e + 1) h hp16 (by omega) hb hc X Y Z)]
        dsimp only [Option.toList_none, Option.toList_some, List.cons_append, List.nil_append]
        rw [B310_191, nI_1, ← Int.add_assoc, ← Int.add_assoc, ← Int.add_assoc]
        exact ih (p + 1) _ _ _ _ _ _ _ (by omega)
      · have eg : ∀ u, gWW m o u b c p = 0 := fun u => if_neg z
        rw [if_neg z, if_pos rfl, B310_191, nI_1, eg, eg, eg, Int.zero_add, Int.zero_add, Int.zero_add]
        exact ih (p + 1) _ _ _ _ _ _ _ (by omega)
  rw [B310_0, show j_up (j_up (j_up L 0 83 0) 0 84 0) 0 85 0 = lmL L 0 0 0 from rfl, show (0 : Int32) = nI 0 from rfl]
  obtain ⟨p4, p5, p6, p7, q⟩ := l1 24 0 0 0 0 none none none none (by omega)
  rw [q, l2 16 0 _ _ _ p4 p5 p6 p7 (by omega)]
  unfold WW fW
  rw [Int.zero_add, Int.zero_add, Int.zero_add]
/-- the weight is bounded -/
theorem WT_b (h : mQ m I J) (o : Nat) : 0 ≤ WT m o ∧ WT m o ≤ 1000000000000 := by
  have a1 := sZ_bd (f := gWt m 0) (a := 0) (n := 24) (B := 1000000000) (fun k _ hk => by
    obtain ⟨w, f1, f2, f4, w1, b1, b2, b4, n0, n1, n2, n4⟩ := h.wt (k := k) (by omega)
    have nb : nWt m k ≤ 16 := by
      unfold nWt; rw [mN_n n1 (by omega), mN_n n2 (by omega)]; split <;> omega
    rw [gWt_0, mv_n n0 (by omega)]
    have h1 : (0 : Int) ≤ 1024 * (w : Int) * (nWt m k : Nat) := Int.mul_nonneg (by omega) (by omega)
    have h2 : 1024 * (w : Int) * (nWt m k : Nat) ≤ 61440000 * 16 := Int.mul_le_mul (by omega) (by omega) (by omega) (by omega)
    omega)
  have a2 := sZ_bd (f := gWT m o) (a := 0) (n := 16) (B := 2000000000) (fun p _ hp => by
    obtain ⟨x, y, x1, y1, n0, n1⟩ := h.fill (p := p) (by omega)
    unfold gWT
    split
    · rw [mv_n n0 (by omega), mv_n n1 (by omega)]
      have h1 : (0 : Int) ≤ 64 * (x : Int) * (y : Int) := Int.mul_nonneg (by omega) (by omega)
      have h2 : 64 * (x : Int) * (y : Int) ≤ 38400000 * 32 := Int.mul_le_mul (by omega) (by omega) (by omega) (by omega)
      omega
    · omega)
  unfold WT fW
  omega
/-- the sea's level at some slopes, second one -/
theorem seal_r (h : mQ m I J) (hr : ∀ p, p < 16 → spR m p) (ho : opKd m o) {f : Nat → Nat} (hz : rnZ m o J f 256) (h256 : J 44 256 = nI (f 256)) {b c : Int} (hb : -2048 ≤ b ∧ b ≤ 2048) (hc : -2048 ≤ c ∧ c ≤ 2048) {W : Int} (hW : L 0 63 = lI W) (W0 : 0 ≤ W) (W1 : W ≤ 1000000000000) : jv (e + 1) 312 0 [some (.ref 0), some (.int (vI b)), some (.int (vI c)), none, none, none] [] (shR, J, L, pR) = some (some (.int (vI (seaL m o W b c))), (shR, J, L, pR)) ∧ -100000 ≤ seaL m o W b c ∧ seaL m o W b c ≤ 200000 ∧ VW m o 0 (seaL m o W b c) b c ≤ W := by
  obtain ⟨be, b1, b2⟩ := level_r (e := e) (J := J) (L := L) (M := fun a => VW m o 0 a b c) (most := W) (b := b) (c := c) (fun a a1 a2 => amount_r (fun s k hs hk => hz.C h256 h hs hk) ⟨a1, a2⟩ hb hc) (fun a _ _ => by have := VW_b h hr ho a b c; exact ⟨by omega, by omega⟩) (by omega) hW (by show VW m o 0 (-100000) b c ≤ _; rw [VW_low h hb hc]; exact W0)
  have : seaL m o W b c = be := lvl_eq (fun _ _ ha => VW_mono h hr ho b c ha) b2
  rw [this]
  obtain ⟨c1, c2, c3, c4, c5⟩ := b2
  exact ⟨b1, c1, by omega, c4⟩
end SEBA
