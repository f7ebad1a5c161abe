/-! SEA: loads along the ship, second one -/
section SEBL
variable {d e : Nat} {I J : Nat → Nat → Int32} {L L' : Nat → Nat → Int64} {m : Nat → Int32} {o : Nat}
/-- a weight's share of a slice -/
def gLd (m : Nat → Int32) (s k : Nat) : Int := if mNa m (281 + k * 5) ≤ s ∧ s ≤ mNa m (282 + k * 5) then 1024 * mv m (280 + k * 5) else 0
noncomputable def gLq (m : Nat → Int32) (o : Nat) (b c : Int) (s p : Nat) : Int := if hasL m o p then LSl m p (liqL m p b c) b c s * mv m (401 + p * 2) else 0
/-- a slice's load -/
noncomputable def lD (m : Nat → Int32) (o : Nat) (A b c : Int) (s : Nat) : Int := sZ (gLd m s) 0 24 - VS m o A b c s + sZ (gLq m o b c s) 0 16
/-- one row of longs changes -/
def upL (a k : Nat) (L L' : Nat → Nat → Int64) : Prop := ∀ c j, (c ≠ a ∨ j ≠ k) → L' c j = L c j
theorem upL.rfl' {a k : Nat} : upL a k L L := fun _ _ _ => rfl
theorem upL.trans {a k : Nat} {L1 L2 : Nat → Nat → Int64} (h1 : upL a k L L1) (h2 : upL a k L1 L2) : upL a k L L2 := fun c j h => by rw [h2 c j h, h1 c j h]
theorem upL.up {a k : Nat} (v : Int64) : upL a k L (j_up L a k v) := fun c j h => j_up_nq _ h v
/-- the runs of a column off a load -/
theorem lcol_r {f : Nat → Nat} {x x' bb : Nat → Int} {s k : Nat} {lo hi : Int} {F : Int → Int} (hs : s < 16) (hk : k < 16) (hC : rnC J f x x' bb (16 * s + k) lo hi F) {l4 l5 l6 : Int32} {pl : Int} (h1 : -300000 ≤ pl) (h2 : pl ≤ 300000) : ∀ (r j : Nat) (A : Int) (L1 : Nat → Nat → Int64), L1 39 s = lI A → f (16 * s + k) ≤ j → j + r = f (16 * s + k + 1) → ∃ (o7 : Int32) (L2 : Nat → Nat → Int64), upL 39 s L1 L2 ∧ L2 39 s = lI (A - (if r = 0 then 0 else sR F (x j) (if pl < hi then pl else hi))) ∧ jv e 322 218 [some (.ref 0), some (.int (nI s)), some (.int (nI k)), some (.int (vI pl)), some (.int l4), some (.int l5), some (.int l6), some (.int (nI j))] [] (shR, J, L1, pR) = jv e 322 302 [some (.ref 0), some (.int (nI s)), some (.int (nI k)), some (.int (vI pl)), some (.int l4), some (.int l5), some (.int l6), some (.int o7)] [] (shR, J, L2, pR) := by
  obtain ⟨c1, c2, c3, c4, c5, c6, c7, c8⟩ := hC
  have ei : ((16 : Int32) * nI s + nI k) + 1 = nI (16 * s + k + 1) := by rw [show (16 : Int32) = nI 16 from rfl, nI_mul, nI_add]; exact nI_add _ 1
  have ji : j_in (nI (16 * s + k + 1)) 257 = true := j_in_nI (by omega) (by decide)
  have ci : (nI (16 * s + k + 1)).toNatClampNeg = 16 * s + k + 1 := nI_clamp (by omega)
  have js : j_in (nI s) 16 = true := j_in_nI hs (by decide)
  have cs : (nI s).toNatClampNeg = s := nI_clamp (by omega)
  intro r
  induction r with
  | zero =>
    intro j A L1 hA hj hr
    refine ⟨nI j, L1, upL.rfl', by rw [if_pos rfl, Int.sub_zero]; exact hA, ?_⟩
    rw [B322_218, ei, if_pos ji, ci, c2, if_neg (nI_nlt (by omega) (by omega))]
  | succ r ih =>
    intro j A L1 hA hj hr
    obtain ⟨d1, d2, d3, d4, d5, d6, d7, d8, d9, d10, d11⟩ := c5 j hj (by omega)
    have jj : j_in (nI j) 9000 = true := j_in_nI (by omega) (by decide)
    have cj : (nI j).toNatClampNeg = j := nI_clamp (by omega)
    rw [B322_218, ei, if_pos ji, ci, c2, if_pos (nI_lt (by omega) (by omega)), if_pos jj, cj, d1]
    by_cases g : x j < pl
    case neg =>
      refine ⟨nI j, L1, upL.rfl', ?_, ?_⟩
      · rw [if_neg (Nat.succ_ne_zero r), sR_nil (show (if pl < hi then pl else hi) ≤ x j by split <;> omega), Int.sub_zero]; exact hA
      · rw [if_neg (fun w => g ((vI_lt (by omega) (by omega) (by omega) (by omega)).mp w))]
    rw [if_pos ((vI_lt (by omega) (by omega) (by omega) (by omega)).mpr g), if_pos js, cs, if_pos jj, d2, hA]
    have one : ∀ u : Int, u = (if x' j < pl then x' j else pl) → ∃ (o7 : Int32) (L2 : Nat → Nat → Int64), upL 39 s L1 L2 ∧ L2 39 s = lI (A - (if r + 1 = 0 then 0 else sR F (x j) (if pl < hi then pl else hi))) ∧ jv e 322 276 [some (.ref 0), some (.int (nI s)), some (.int (nI k)), some (.int (vI pl)), some (.int l4), some (.int l5), some (.int l6), some (.int (nI j))] [.int (vI u), .long (lI A), .int (nI s), .ref 39] (shR, J, L1, pR) = jv e 322 302 [some (.ref 0), some (.int (nI s)), some (.int (nI k)), some (.int (vI pl)), some (.int l4), some (.int l5), some (.int l6), some (.int o7)] [] (shR, J, L2, pR) := by
      intro u hu
      have ub : x j ≤ u ∧ u ≤ x' j ∧ u ≤ pl ∧ (u = x' j ∨ u = pl) := by rw [hu]; split <;> omega
      have b64 : (vI (bb j)).toInt64 = lI (bb j) := vI_64 (by omega) (by omega)
      obtain ⟨o7, L2, n1, n2, n3⟩ := ih (j + 1) (A - (u - x j) * bb j) (j_up L1 39 s (lI (A - (u - x j) * bb j))) (by rw [j_up_eq]) (by omega) (by omega)
      refine ⟨o7, L2, (upL.up _).trans n1, ?_, ?_⟩
      · have piece : sR F (x j) u = (u - x j) * bb j := by
          rw [sR_congr (g := fun _ => bb j) (fun y y1 y2 => d9 y y1 (by omega)), sR_const ub.1, Int.mul_comm]
        have rest : sR F (x j) (if pl < hi then pl else hi) = (u - x j) * bb j + (if r = 0 then 0 else sR F (x (j + 1)) (if pl < hi then pl else hi)) := by
          have ule : u ≤ (if pl < hi then pl else hi) := by split <;> omega
          rw [sR_split (b := u) ub.1 ule, piece]
          congr 1
          by_cases z : r = 0
          · rw [if_pos z]
            have := d11 (by omega)
            exact sR_nil (by rcases ub.2.2.2 with w | w <;> split <;> omega)
          · rw [if_neg z, d10 (by omega)]
            rcases ub.2.2.2 with w | w
            · rw [w]
            · rw [sR_nil (show (if pl < hi then pl else hi) ≤ u by split <;> omega), sR_nil (show (if pl < hi then pl else hi) ≤ x' j by split <;> omega)]
        rw [n2, if_neg (Nat.succ_ne_zero r), rest]
        congr 1
        omega
      · rw [B322_276, if_pos jj, if_pos jj, if_pos js, cj, cs, d1, d3, vI_sub, vI_64 (z := u - x j) (by omega) (by omega), b64, lI_mul, lI_sub, show nI j + 1 = nI (j + 1) from nI_add j 1]
        exact n3
    by_cases g2 : x' j < pl
    · rw [if_pos ((vI_lt (by omega) (by omega) (by omega) (by omega)).mpr g2), if_pos jj]
      exact one (x' j) (by rw [if_pos g2])
    · rw [if_neg (fun w => g2 ((vI_lt (by omega) (by omega) (by omega) (by omega)).mp w))]
      exact one pl (by rw [if_neg g2])
/-- the weights on a slice, second one -/
theorem lwts_r (h : mQ m I J) {s : Nat} (hs : s < 16) : ∀ (r k : Nat) (A : Int) (L1 : Nat → Nat → Int64) (o3 o4 o5 o6 o7 : Option Value), k + r = 24 → L1 39 s = lI A → ∃ (L2 : Nat → Nat → Int64) (p3 : Option Value), upL 39 s L1 L2 ∧ L2 39 s = lI (A + sZ (gLd m s) k r) ∧ jv (e + 1) 322 17 [some (.ref 0), some (.int (nI s)), some (.int (nI k)), o3, o4, o5, o6, o7] [] (shR, J, L1, pR) = jv (e + 1) 322 96 [some (.ref 0), some (.int (nI s)), some (.int (nI 0)), p3, o4, o5, o6, o7] [] (shR, J, L2, pR) := by
  have js : j_in (nI s) 16 = true := j_in_nI hs (by decide)
  have cs : (nI s).toNatClampNeg = s := nI_clamp (by omega)
  intro r
  induction r with
  | zero =>
    intro k A L1 o3 o4 o5 o6 o7 hk hA
    refine ⟨L1, o3, upL.rfl', by show _ = lI (A + 0); rw [Int.add_zero]; exact hA, ?_⟩
    rw [B322_17, if_neg (show ¬ nI k < 24 from nI_nlt (b := 24) (by omega) (by omega))]; rfl
  | succ r ih =>
    intro k A L1 o3 o4 o5 o6 o7 hk hA
    obtain ⟨w, f1, f2, f4, w1, b1, b2, b4, n0, n1, n2, n4⟩ := h.wt (k := k) (by omega)
    have ee : ∀ x, nI (280 + k * 5) + nI x = nI (280 + x + k * 5) := fun x => by rw [nI_add, show 280 + k * 5 + x = 280 + x + k * 5 by omega]
    have jj : ∀ x, x < 8 → j_in (nI (280 + x + k * 5)) 1189 = true := fun x hx => j_in_nI (by omega) (by decide)
    have v0 : (nI w).toInt64 = lI (mv m (280 + k * 5)) := by rw [← n0, m64]
    rw [B322_17, if_pos (show nI k < 24 from nI_lt (b := 24) (by omega) (by decide)), g_at_3_0 h.2.2.2]
    dsimp only [Option.toList_some, List.cons_append, List.nil_append]
    have fin : ∀ g : Int, g = gLd m s k → ∃ (L2 : Nat → Nat → Int64) (p3 : Option Value), upL 39 s L1 L2 ∧ L2 39 s = lI (A + sZ (gLd m s) k (r + 1)) ∧ jv (e + 1) 322 86 [some (.ref 0), some (.int (nI s)), some (.int (nI k)), some (.int (nI (280 + k * 5))), o4, o5, o6, o7] [.long (lI g), .long (lI A), .int (nI s), .ref 39] (shR, J, L1, pR) = jv (e + 1) 322 96 [some (.ref 0), some (.int (nI s)), some (.int (nI 0)), p3, o4, o5, o6, o7] [] (shR, J, L2, pR) := by
      intro g hg
      obtain ⟨L2, p3, i1, i2, i3⟩ := ih (k + 1) (A + g) (j_up L1 39 s (lI (A + g))) (some (.int (nI (280 + k * 5)))) o4 o5 o6 o7 (by omega) (by rw [j_up_eq])
      refine ⟨L2, p3, (upL.up _).trans i1, ?_, ?_⟩
      · rw [i2, sZ_front, hg, Int.add_assoc]
      · rw [B322_86, if_pos js, cs, lI_add, nI_1]; exact i3
    have dry : gLd m s k = 0 → ∃ (L2 : Nat → Nat → Int64) (p3 : Option Value), upL 39 s L1 L2 ∧ L2 39 s = lI (A + sZ (gLd m s) k (r + 1)) ∧ jv (e + 1) 322 85 [some (.ref 0), some (.int (nI s)), some (.int (nI k)), some (.int (nI (280 + k * 5))), o4, o5, o6, o7] [.long (lI A), .int (nI s), .ref 39] (shR, J, L1, pR) = jv (e + 1) 322 96 [some (.ref 0), some (.int (nI s)), some (.int (nI 0)), p3, o4, o5, o6, o7] [] (shR, J, L2, pR) := by
      intro hg
      rw [B322_85, show (0 : Int64) = lI 0 from rfl]
      exact fin 0 hg.symm
    have eg : gLd m s k = if f1 ≤ s ∧ s ≤ f2 then 1024 * mv m (280 + k * 5) else 0 := by
      unfold gLd; rw [mN_n n1 (by omega), mN_n n2 (by omega)]
    rw [B322_30, if_pos js, if_pos (show j_in (nI (280 + k * 5)) 1189 = true from jj 0 (by decide)), nI_clamp (n := 280 + k * 5) (by omega), h.2.1 (280 + k * 5) (by omega), n0, cs, hA]
    by_cases w0 : 0 < w
    case neg =>
      rw [if_neg (show ¬ (0 : Int32) < nI w from nI_nlt (a := 0) (by omega) (by decide))]
      refine dry ?_
      rw [eg, mv_n n0 (by omega), show w = 0 by omega]
      split <;> rfl
    rw [if_pos (show (0 : Int32) < nI w from nI_lt (a := 0) w0 (by omega)), show nI (280 + k * 5) + 1 = nI (281 + k * 5) from ee 1, if_pos (jj 1 (by decide)), nI_clamp (n := 281 + k * 5) (by omega), h.2.1 (281 + k * 5) (by omega), n1]
    by_cases z1 : s < f1
    · rw [if_pos (nI_lt z1 (by omega))]
      exact dry (by rw [eg, if_neg (by omega)])
    rw [if_neg (nI_nlt (by omega) (by omega)), show nI (280 + k * 5) + 2 = nI (282 + k * 5) from ee 2, if_pos (jj 2 (by decide)), nI_clamp (n := 282 + k * 5) (by omega), h.2.1 (282 + k * 5) (by omega), n2]
    by_cases z2 : f2 < s
    · rw [if_pos (nI_lt z2 (by omega))]
      exact dry (by rw [eg, if_neg (by omega)])
    rw [if_neg (nI_nlt (by omega) (by omega)), if_pos (show j_in (nI (280 + k * 5)) 1189 = true from jj 0 (by decide)), v0, show (1024 : Int64) = lI 1024 from rfl, lI_mul]
    exact fin _ (by rw [eg, if_pos (by omega)])
/-- a liquid's loads, second one -/
theorem lliq_r (h : mQ m I J) {p : Nat} (hp : p < 16) {a b c : Int} (ha : -200001 ≤ a ∧ a ≤ 200001) (hb : -2048 ≤ b ∧ b ≤ 2048) (hc : -2048 ≤ c ∧ c ≤ 2048) (h6 : J 0 67 = vI b) (h7 : J 0 68 = vI c) {X : Nat → Int} (hX : ∀ s, s < 16 → L 39 s = lI (X s)) : ∃ L', (∀ c, c ≠ 39 → L' c = L c) ∧ (∀ s, s < 16 → L' 39 s = lI (X s + LSl m p a b c s * mv m (401 + p * 2))) ∧ jv (e + 3) 323 0 [some (.ref 0), some (.int (nI p)), some (.int (vI a)), none, none, none, none, none, none, none] [] (shR, J, L, pR) = some (none, (shR, J, L', pR)) := by
  obtain ⟨f0, f1, f2, f3, f4, f5, f6, a0, a1, a2, a3, a4, a5, a6, m0, m1, m2, m3, m4, m5, m6⟩ := h.space hp
  have ee : ∀ x, nI (152 + p * 8) + nI x = nI (152 + x + p * 8) := fun x => by rw [nI_add, show 152 + p * 8 + x = 152 + x + p * 8 by omega]
  have jj : ∀ x, x < 8 → j_in (nI (152 + x + p * 8)) 1189 = true := fun x hx => j_in_nI (by omega) (by decide)
  obtain ⟨y1, y2, y3, y4, x5, x6, x7, x8⟩ := h.sp (q := p + 1) (by omega)
  have g1 : hSF m (p + 1) = f1 := by unfold hSF; rw [if_neg (by omega), Nat.add_sub_cancel, mN_n m1 (by omega)]
  have g2 : hST m (p + 1) = f2 := by unfold hST; rw [if_neg (by omega), Nat.add_sub_cancel, mN_n m2 (by omega)]
  have g3 : hCF m (p + 1) = f3 := by unfold hCF; rw [if_neg (by omega), Nat.add_sub_cancel, mN_n m3 (by omega)]
  have g4 : hCT m (p + 1) = f4 := by unfold hCT; rw [if_neg (by omega), Nat.add_sub_cancel, mN_n m4 (by omega)]
  generalize hwt : mv m (401 + p * 2) = wt
  have col : ∀ {s : Nat}, s < 16 → ∀ (r k : Nat) (A : Int) (L1 : Nat → Nat → Int64) (o7 o8 o9 : Option Value), L1 39 s = lI A → r = f4 + 1 - k → k ≤ 16 → ∃ (L2 : Nat → Nat → Int64) (o6 p7 p8 p9 : Option Value), upL 39 s L1 L2 ∧ L2 39 s = lI (A + sZ (gL m p a b c 0 s) k r * wt) ∧ jv (e + 3) 323 50 [some (.ref 0), some (.int (nI p)), some (.int (vI a)), some (.int (nI (152 + p * 8))), some (.int (nI s)), some (.int (vI (wV (64 * mv m (16 + s * 9)) (hRf m (p + 1))))), some (.int (nI k)), o7, o8, o9] [] (shR, J, L1, pR) = jv (e + 3) 323 18 [some (.ref 0), some (.int (nI p)), some (.int (vI a)), some (.int (nI (152 + p * 8))), some (.int (nI (s + 1))), some (.int (vI (wV (64 * mv m (16 + s * 9)) (hRf m (p + 1))))), o6, p7, p8, p9] [] (shR, J, L2, pR) := by
    intro s hs r
    have js : j_in (nI s) 16 = true := j_in_nI hs (by decide)
    have cs : (nI s).toNatClampNeg = s := nI_clamp (by omega)
    induction r with
    | zero =>
      intro k A L1 o7 o8 o9 hA hr k16
      refine ⟨L1, some (.int (nI k)), o7, o8, o9, upL.rfl', ?_, ?_⟩
      · show _ = lI (A + 0 * wt)
        rw [Int.zero_mul, Int.add_zero]; exact hA
      · rw [B323_50, show nI (152 + p * 8) + 4 = nI (156 + p * 8) from ee 4, if_pos (jj 4 (by decide)), nI_clamp (n := 156 + p * 8) (by omega), h.2.1 _ (by omega), m4, if_pos (nI_lt (by omega) (by omega)), nI_1]
    | succ r ih =>
      intro k A L1 o7 o8 o9 hA hr k16
      have hk : k < 16 := by omega
      obtain ⟨l0, l1, l2, l3⟩ := h.lo (i := 16 * s + k) (by omega)
      have pb := plY_b (s := s) (k := k) ha hb hc hs hk
      rw [B323_50, show nI (152 + p * 8) + 4 = nI (156 + p * 8) from ee 4, if_pos (jj 4 (by decide)), nI_clamp (n := 156 + p * 8) (by omega), h.2.1 _ (by omega), m4, if_neg (nI_nlt (by omega) (by omega)), jgo_some (d := e + 2) rfl (low_r h hp hs hk)]
      dsimp only [Option.toList_some, List.cons_append, List.nil_append]
      rw [B323_72, h6, h7, plY_v, sZ_front]
      have ht : (if vI (plY a b c s k) < vI (wV (64 * mv m (16 + s * 9)) (hRf m (p + 1))) then vI (plY a b c s k) else vI (wV (64 * mv m (16 + s * 9)) (hRf m (p + 1)))) = vI (wU (hHi m (16 * s + k)) (hRf m (p + 1)) (plY a b c s k)) := by
        rw [hHi_k hk, wU_V]
        have vb : 0 ≤ wV (64 * mv m (16 + s * 9)) (hRf m (p + 1)) ∧ wV (64 * mv m (16 + s * 9)) (hRf m (p + 1)) ≤ 200000 := by
          rw [hHi_k hk] at l2 l3; unfold wV; split <;> omega
        by_cases z : plY a b c s k < wV (64 * mv m (16 + s * 9)) (hRf m (p + 1))
        · rw [if_pos ((vI_lt (by omega) (by omega) (by omega) (by omega)).mpr z), if_pos z]
        · rw [if_neg (fun y => z ((vI_lt (by omega) (by omega) (by omega) (by omega)).mp y)), if_neg z]
      have st : ∀ (S : Int32), S = vI (wU (hHi m (16 * s + k)) (hRf m (p + 1)) (plY a b c s k)) → ∃ (L2 : Nat → Nat → Int64) (o6 p7 p8 p9 : Option Value), upL 39 s L1 L2 ∧ L2 39 s = lI (A + (gL m p a b c 0 s k + sZ (gL m p a b c 0 s) (k + 1) r) * wt) ∧ jv (e + 3) 323 117 [some (.ref 0), some (.int (nI p)), some (.int (vI a)), some (.int (nI (152 + p * 8))), some (.int (nI s)), some (.int (vI (wV (64 * mv m (16 + s * 9)) (hRf m (p + 1))))), some (.int (nI k)), some (.int (vI (wL (hLo m (16 * s + k)) (hFl m (p + 1))))), some (.int (vI (plY a b c s k))), o9] [.int S] (shR, J, L1, pR) = jv (e + 3) 323 18 [some (.ref 0), some (.int (nI p)), some (.int (vI a)), some (.int (nI (152 + p * 8))), some (.int (nI (s + 1))), some (.int (vI (wV (64 * mv m (16 + s * 9)) (hRf m (p + 1))))), o6, p7, p8, p9] [] (shR, J, L2, pR) := by
        intro S hS
        rw [B323_117, hS, if_pos js]
        have e1 : gL m p a b c 0 s k = wP (wL (hLo m (16 * s + k)) (hFl m (p + 1))) (wU (hHi m (16 * s + k)) (hRf m (p + 1)) (plY a b c s k)) := by
          unfold gL gC; rw [if_pos rfl, Int.mul_one]
        have lb : 0 ≤ wL (hLo m (16 * s + k)) (hFl m (p + 1)) ∧ wL (hLo m (16 * s + k)) (hFl m (p + 1)) ≤ 128000 := by unfold wL; split <;> omega
        have ub : -300000 ≤ wU (hHi m (16 * s + k)) (hRf m (p + 1)) (plY a b c s k) ∧ wU (hHi m (16 * s + k)) (hRf m (p + 1)) (plY a b c s k) ≤ 300000 := by unfold wU; (repeat' split) <;> omega
        rw [Int.add_mul, ← Int.add_assoc, e1, cs, hA]
        generalize wL (hLo m (16 * s + k)) (hFl m (p + 1)) = lw at *
        generalize wU (hHi m (16 * s + k)) (hRf m (p + 1)) (plY a b c s k) = up at *
        by_cases z : lw < up
        · rw [if_pos ((vI_lt (by omega) (by omega) (by omega) (by omega)).mpr z), g_at_4_1 h.2.2.2]
          dsimp only [Option.toList_some, List.cons_append, List.nil_append]
          rw [B323_151, if_pos (j_in_nI (by omega) (by decide)), nI_clamp (n := 401 + p * 2) (by omega), h.2.1 (401 + p * 2) (by omega), m64, hwt, vI_sub, vI_64 (z := up - lw) (by omega) (by omega), lI_mul, B323_158, if_pos js, cs, lI_add, nI_1, show wP lw up = up - lw from if_pos z]
          obtain ⟨L2, o6, p7, p8, p9, i1, i2, i3⟩ := ih (k + 1) (A + (up - lw) * wt) (j_up L1 39 s (lI (A + (up - lw) * wt))) (some (.int (vI lw))) (some (.int (vI (plY a b c s k)))) (some (.int (vI up))) (by rw [j_up_eq]) (by omega) (by omega)
          exact ⟨L2, o6, p7, p8, p9, (upL.up _).trans i1, i2, i3⟩
        · rw [if_neg (fun y => z ((vI_lt (by omega) (by omega) (by omega) (by omega)).mp y)), show (0 : Int64) = lI 0 from rfl, B323_158, if_pos js, cs, lI_add, nI_1, show wP lw up = 0 from if_neg z, Int.zero_mul]
          obtain ⟨L2, o6, p7, p8, p9, i1, i2, i3⟩ := ih (k + 1) (A + 0) (j_up L1 39 s (lI (A + 0))) (some (.int (vI lw))) (some (.int (vI (plY a b c s k)))) (some (.int (vI up))) (by rw [j_up_eq]) (by omega) (by omega)
          exact ⟨L2, o6, p7, p8, p9, (upL.up _).trans i1, i2, i3⟩
      by_cases z : vI (plY a b c s k) < vI (wV (64 * mv m (16 + s * 9)) (hRf m (p + 1)))
      · rw [if_pos z] at ht ⊢
        exact st _ ht
      · rw [if_neg z] at ht ⊢
        exact st _ ht
  have row : ∀ (r s : Nat) (L1 : Nat → Nat → Int64) (o5 o6 o7 o8 o9 : Option Value), r = f2 + 1 - s → s ≤ 16 → (∀ t, t < 16 → L1 39 t = lI (X t + (if f1 ≤ t ∧ t < s ∧ t ≤ f2 then LSl m p a b c t else 0) * wt)) → f1 ≤ s → ∃ L2, (∀ c, c ≠ 39 → L2 c = L1 c) ∧ (∀ t, t < 16 → L2 39 t = lI (X t + LSl m p a b c t * wt)) ∧ jv (e + 3) 323 18 [some (.ref 0), some (.int (nI p)), some (.int (vI a)), some (.int (nI (152 + p * 8))), some (.int (nI s)), o5, o6, o7, o8, o9] [] (shR, J, L1, pR) = some (none, (shR, J, L2, pR)) := by
    intro r
    induction r with
    | zero =>
      intro s L1 o5 o6 o7 o8 o9 hr s16 hL fs
      refine ⟨L1, fun _ _ => rfl, fun t ht => ?_, ?_⟩
      · rw [hL t ht]
        by_cases w : f1 ≤ t ∧ t ≤ f2
        · rw [if_pos ⟨w.1, by omega, w.2⟩]
        · rw [if_neg (fun y => w ⟨y.1, y.2.2⟩)]
          unfold LSl
          rw [g1, g2, if_neg w]
      · rw [B323_18, show nI (152 + p * 8) + 2 = nI (154 + p * 8) from ee 2, if_pos (jj 2 (by decide)), nI_clamp (n := 154 + p * 8) (by omega), h.2.1 _ (by omega), m2, if_pos (nI_lt (by omega) (by omega))]
    | succ r ih =>
      intro s L1 o5 o6 o7 o8 o9 hr s16 hL fs
      have hs : s < 16 := by omega
      have A0 := hL s hs
      rw [if_neg (by omega), Int.zero_mul, Int.add_zero] at A0
      rw [B323_18, show nI (152 + p * 8) + 2 = nI (154 + p * 8) from ee 2, if_pos (jj 2 (by decide)), nI_clamp (n := 154 + p * 8) (by omega), h.2.1 _ (by omega), m2, if_neg (nI_nlt (by omega) (by omega)), jgo_some (d := e + 2) rfl (high_r (e := e + 1) h hp hs)]
      dsimp only [Option.toList_some, List.cons_append, List.nil_append]
      rw [B323_38, show nI (152 + p * 8) + 3 = nI (155 + p * 8) from ee 3, if_pos (jj 3 (by decide)), nI_clamp (n := 155 + p * 8) (by omega), h.2.1 _ (by omega), m3]
      obtain ⟨L2, q6, q7, q8, q9, c1, c2, ce⟩ := col hs (f4 + 1 - f3) f3 (X s) L1 o7 o8 o9 A0 rfl (by omega)
      obtain ⟨L3, i1, i2, i3⟩ := ih (s + 1) L2 (some (.int (vI (wV (64 * mv m (16 + s * 9)) (hRf m (p + 1)))))) q6 q7 q8 q9 (by omega) (by omega) (fun t ht => by
        by_cases w : t = s
        · subst w
          rw [c2, if_pos ⟨fs, by omega, by omega⟩]
          unfold LSl
          rw [g1, g2, g3, g4, if_pos ⟨fs, by omega⟩]
        · rw [c1 39 t (Or.inr w), hL t ht]
          by_cases w2 : f1 ≤ t ∧ t < s ∧ t ≤ f2
          · rw [if_pos w2, if_pos ⟨w2.1, by omega, w2.2.2⟩]
          · rw [if_neg w2, if_neg (fun y => w2 ⟨y.1, by omega, y.2.2⟩)]) (by omega)
      exact ⟨L3, fun c hc => by rw [i1 c hc]; funext j; exact c1 c j (Or.inl hc), i2, by rw [ce]; exact i3⟩
  obtain ⟨L2, i1, i2, i3⟩ := row (f2 + 1 - f1) f1 L none none none none none rfl (by omega) (fun t ht => by
    rw [hX t ht, if_neg (by omega), Int.zero_mul, Int.add_zero]) (Nat.le_refl _)
  refine ⟨L2, i1, i2, ?_⟩
  rw [B323_0, g_at_2_0 h.2.2.2]
  dsimp only [Option.toList_some, List.cons_append, List.nil_append]
  rw [B323_7, show nI (152 + p * 8) + 1 = nI (153 + p * 8) from ee 1, if_pos (jj 1 (by decide)), nI_clamp (n := 153 + p * 8) (by omega), h.2.1 _ (by omega), m1]
  exact i3
end SEBL
