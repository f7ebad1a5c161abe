/-! SEA: loads along the ship, first one -/
section SEBN
variable {d e : Nat} {I J : Nat → Nat → Int32} {L L' : Nat → Nat → Int64} {pa pb pu pw : Option Nat} {m : Nat → Int32} {o : Nat}
theorem l32 {z : Int} (h1 : -2147483648 ≤ z) (h2 : z < 2147483648) : (lI z).toInt32 = vI z := by
  have e0 : (lI z).toInt = z := lI_toInt (by omega) (by omega)
  rw [x32' (by rw [e0]; omega) (by rw [e0]; omega), e0]
/-- the weights on a slice, first one -/
theorem lwts_c (h : mQ m I J) {s : Nat} (hs : s < 16) {l1 l2 : Int32} : ∀ (r k : Nat) (A : Int) (L1 : Nat → Nat → Int64), k + r = 24 → ∃ k', jv (d + 1) 111 130 [some (.ref 60), some (.int l1), some (.int l2), some (.int (nI s)), some (.long (lI A)), none, some (.int (nI k))] [] (shC, I, L1, pX pa pb pu pw) = jv (d + 1) 111 20 [some (.ref 60), some (.int l1), some (.int l2), some (.int (nI (s + 1))), some (.long (lI (A + sZ (gLd m s) k r))), none, some (.int k')] [] (shC, I, j_up L1 68 s (lI (A + sZ (gLd m s) k r)), pX pa pb pu pw) := by
  intro r
  induction r with
  | zero =>
    intro k A L1 hk
    refine ⟨nI k, ?_⟩
    rw [B111_130, if_pos (by decide), show z_0.getD (3 : Int32).toNatClampNeg 0 = nI 24 from rfl, if_neg (nI_nlt (by omega) (by omega)), if_pos (j_in_nI hs (by decide)), nI_clamp (by omega), nI_1]
    show _ = jv _ _ _ [_, _, _, _, some (Value.long (lI (A + 0))), _, _] _ (shC, I, j_up L1 68 s (lI (A + 0)), _)
    rw [Int.add_zero]
  | succ r ih =>
    intro k A L1 hk
    have hk24 : k < 24 := by omega
    obtain ⟨w, f1, f2, f4, w1, b1, b2, b4, n0, n1, n2, n4⟩ := h.wt hk24
    have v0 : (nI w).toInt64 = lI (mv m (280 + k * 5)) := by rw [← n0, m64]
    have eg : gLd m s k = if f1 ≤ s ∧ s ≤ f2 then 1024 * mv m (280 + k * 5) else 0 := by
      unfold gLd; rw [mN_n n1 (by omega), mN_n n2 (by omega)]
    rw [B111_130, if_pos (by decide), show z_0.getD (3 : Int32).toNatClampNeg 0 = nI 24 from rfl, if_pos (nI_lt (by omega) (by omega)), g_of1_3_1 hk24, h.1 _ (by omega), n1, sZ_front, ← Int.add_assoc]
    dsimp only [Option.toList_some, List.cons_append, List.nil_append]
    rw [B111_152]
    by_cases z1 : s < f1
    · rw [if_pos (nI_lt z1 (by omega)), B111_191, nI_1, eg, if_neg (by omega), Int.add_zero]
      exact ih (k + 1) A L1 (by omega)
    rw [if_neg (nI_nlt (by omega) (by omega)), g_of1_3_2 hk24, h.1 _ (by omega), n2]
    dsimp only [Option.toList_some, List.cons_append, List.nil_append]
    rw [B111_167]
    by_cases z2 : f2 < s
    · rw [if_pos (nI_lt z2 (by omega)), B111_191, nI_1, eg, if_neg (by omega), Int.add_zero]
      exact ih (k + 1) A L1 (by omega)
    rw [if_neg (nI_nlt (by omega) (by omega)), g_of1_3_0 hk24, h.1 _ (by omega), n0]
    dsimp only [Option.toList_some, List.cons_append, List.nil_append]
    rw [B111_186, v0, show (1024 : Int64) = lI 1024 from rfl, lI_mul, lI_add, B111_191, nI_1, eg, if_pos (by omega)]
    exact ih (k + 1) _ L1 (by omega)
theorem loads_c (h : seaC m o I J L) {A b c : Int} (h5 : L 61 5 = lI A) (h6 : L 61 6 = lI b) (h7 : L 61 7 = lI c) (ha : -200001 ≤ A ∧ A ≤ 200001) (hb : -2048 ≤ b ∧ b ≤ 2048) (hc : -2048 ≤ c ∧ c ≤ 2048) (hl67 : ∀ p, p < 16 → hasL m o p → I 67 p = vI (liqL m p b c)) : ∃ L', (∀ c, c ≠ 68 → c ≠ 72 → L' c = L c) ∧ (∀ s, s < 16 → L' 68 s = lI (lD m o A b c s)) ∧ jv (d + 1) 111 0 [some (.ref 60), none, none, none, none, none, none] [] (shC, I, L, pX pa pb pu pw) = some (none, (shC, I, L', pX pa pb pu pw)) := by
  obtain ⟨⟨k1, k2, k3, k4⟩, kE, kB, hn, ho, -, -, -, h65, -⟩ := id h
  have hD := kE.D k1 (bt := hBt m o) (fun k hk => ⟨kB k hk, hBt_b k1 o hk⟩)
  have liqs : ∀ {s : Nat}, s < 16 → ∀ (r p : Nat) (B : Int) (L1 : Nat → Nat → Int64), p + r = 16 → (∀ c, c ≠ 68 → c ≠ 72 → L1 c = L c) → ∃ L2, (∀ c, c ≠ 72 → L2 c = L1 c) ∧ jv (d + 1) 111 61 [some (.ref 60), some (.int (vI b)), some (.int (vI c)), some (.int (nI s)), some (.long (lI B)), none, some (.int (nI p))] [] (shC, I, L1, pX pa pb pu pw) = jv (d + 1) 111 130 [some (.ref 60), some (.int (vI b)), some (.int (vI c)), some (.int (nI s)), some (.long (lI (B + sZ (gLq m o b c s) p r))), none, some (.int (nI 0))] [] (shC, I, L2, pX pa pb pu pw) := by
    intro s hs r
    induction r with
    | zero =>
      intro p B L1 hp fL
      refine ⟨L1, fun _ _ => rfl, ?_⟩
      rw [B111_61, if_neg (show ¬ nI p < 16 from nI_nlt (b := 16) (by omega) (by omega))]
      show _ = jv _ _ _ [_, _, _, _, some (Value.long (lI (B + 0))), _, _] _ _
      rw [Int.add_zero]; rfl
    | succ r ih =>
      intro p B L1 hp fL
      have hp16 : p < 16 := by omega
      have jp : j_in (nI p) 16 = true := j_in_nI hp16 (by decide)
      have cp : (nI p).toNatClampNeg = p := nI_clamp (by omega)
      have h1 : seaC m o I J L1 := h.gen rfl rfl rfl (fun _ _ _ => rfl) hn (by rw [fL 60 (by decide) (by decide)]) (fun c hc => fL c (by omega) (by omega))
      rw [B111_61, if_pos (show nI p < 16 from nI_lt (b := 16) (by omega) (by decide)), jgo_some (d := d) rfl (hasl_c h1 hp16), sZ_front, ← Int.add_assoc]
      dsimp only [Option.toList_some, List.cons_append, List.nil_append]
      rw [B111_74]
      by_cases hl : hasL m o p
      · obtain ⟨-, lb1, lb2, -⟩ := liq_r (e := 0) (L := fun _ _ => 0) k1 hp16 hb hc
        have wg := weigh_c (d := d) (L := L1) (pa := pa) (pb := pb) (pu := pu) (pw := pw) hD (a := liqL m p b c) (b := b) (c := c) (by omega) hb hc (t0 := s) (t1 := s) hs hs (l1 := (1 : Int32) <<< (nI (p + 1) &&& 31)) (sb := sb1 p) (fun q hq => set_one hp16 hq)
        have e0 : wB (sb1 p) (hLo m) (hHi m) (hSF m) (hST m) (hCF m) (hCT m) (hFl m) (hRf m) (hBt m o) (liqL m p b c) b c s s 0 17 = LSl m p (liqL m p b c) b c s := wB_LS k1 hp16 hl.2 _ _ _ hs
        rw [e0] at wg
        generalize wB (sb1 p) (hLo m) (hHi m) (hSF m) (hST m) (hCF m) (hCT m) (hFl m) (hRf m) (hBt m o) (liqL m p b c) b c s s 1 17 = X1 at wg
        generalize wB (sb1 p) (hLo m) (hHi m) (hSF m) (hST m) (hCF m) (hCT m) (hFl m) (hRf m) (hBt m o) (liqL m p b c) b c s s 2 17 = X2 at wg
        generalize wB (sb1 p) (hLo m) (hHi m) (hSF m) (hST m) (hCF m) (hCT m) (hFl m) (hRf m) (hBt m o) (liqL m p b c) b c s s 3 17 = X3 at wg
        rw [if_pos hl, if_neg (show ¬ (1 : Int32) = 0 by decide), if_pos jp, cp, hl67 p hp16 hl, nI_1, jgo_some (d := d) rfl wg]
        dsimp only [Option.toList_some, Option.toList_none, List.cons_append, List.nil_append]
        rw [B111_101, if_pos jp, cp, hmL_own, if_neg (by decide), if_neg (by decide), if_neg (by decide), if_pos rfl, hmL_c _ _ _ _ (by decide), fL 66 (by decide) (by decide), (h65 p hp16).2, lI_mul, lI_add, B111_121, nI_1, show gLq m o b c s p = LSl m p (liqL m p b c) b c s * mv m (401 + p * 2) from if_pos hl]
        obtain ⟨L3, i1, i2⟩ := ih (p + 1) (B + LSl m p (liqL m p b c) b c s * mv m (401 + p * 2)) (hmL L1 (LSl m p (liqL m p b c) b c s) X1 X2 X3) (by omega) (fun c c1 c2 => by rw [hmL_c _ _ _ _ c2]; exact fL c c1 c2)
        exact ⟨L3, fun c hc => by rw [i1 c hc, hmL_c _ _ _ _ hc], i2⟩
      · rw [if_neg hl, if_pos rfl, B111_121, nI_1, show gLq m o b c s p = 0 from if_neg hl, Int.add_zero]
        exact ih (p + 1) B L1 (by omega) fL
  have slices : ∀ (r s : Nat) (L1 : Nat → Nat → Int64) (o4 o5 o6 : Option Value), s + r = 16 → (∀ c, c ≠ 68 → c ≠ 72 → L1 c = L c) → (∀ t, t < s → L1 68 t = lI (lD m o A b c t)) → ∃ L2, (∀ c, c ≠ 68 → c ≠ 72 → L2 c = L c) ∧ (∀ t, t < 16 → L2 68 t = lI (lD m o A b c t)) ∧ jv (d + 1) 111 20 [some (.ref 60), some (.int (vI b)), some (.int (vI c)), some (.int (nI s)), o4, o5, o6] [] (shC, I, L1, pX pa pb pu pw) = some (none, (shC, I, L2, pX pa pb pu pw)) := by
    intro r
    induction r with
    | zero =>
      intro s L1 o4 o5 o6 hs fL hL
      have : s = 16 := by omega
      subst this
      exact ⟨L1, fL, hL, by rw [B111_20, if_neg (by decide)]⟩
    | succ r ih =>
      intro s L1 o4 o5 o6 hs fL hL
      have s16 : s < 16 := by omega
      have wg := weigh_c (d := d) (L := L1) (pa := pa) (pb := pb) (pu := pu) (pw := pw) hD (a := A) (b := b) (c := c) ha hb hc (t0 := s) (t1 := s) s16 s16 (l1 := (1 : Int32) ||| (nI o <<< ((1 : Int32) &&& 31))) (sb := sbO o) (fun q hq => set_sea k4 hq)
      have e0 : wB (sbO o) (hLo m) (hHi m) (hSF m) (hST m) (hCF m) (hCT m) (hFl m) (hRf m) (hBt m o) A b c s s 0 17 = VS m o A b c s := wB_S k1 A b c s16
      rw [e0] at wg
      generalize wB (sbO o) (hLo m) (hHi m) (hSF m) (hST m) (hCF m) (hCT m) (hFl m) (hRf m) (hBt m o) A b c s s 1 17 = X1 at wg
      generalize wB (sbO o) (hLo m) (hHi m) (hSF m) (hST m) (hCF m) (hCT m) (hFl m) (hRf m) (hBt m o) A b c s s 2 17 = X2 at wg
      generalize wB (sbO o) (hLo m) (hHi m) (hSF m) (hST m) (hCF m) (hCT m) (hFl m) (hRf m) (hBt m o) A b c s s 3 17 = X3 at wg
      rw [B111_20, if_pos (show nI s < 16 from nI_lt (b := 16) (by omega) (by decide)), jgo_some (d := d) rfl (B104_0 _ _ _ _ _ _ _)]
      dsimp only [Option.toList_some, Option.toList_none, List.cons_append, List.nil_append]
      rw [B111_34, if_pos (by decide), show (5 : Int32).toNatClampNeg = 5 from rfl, fL 61 (by decide) (by decide), h5, l32 (by omega) (by omega), ho, jgo_some (d := d) rfl wg]
      dsimp only [Option.toList_some, Option.toList_none, List.cons_append, List.nil_append]
      rw [B111_48, hmL_own, if_neg (by decide), if_neg (by decide), if_neg (by decide), if_pos rfl, lI_neg]
      obtain ⟨L2, a1, a2⟩ := liqs s16 16 0 (-VS m o A b c s) (hmL L1 (VS m o A b c s) X1 X2 X3) (by omega) (fun c c1 c2 => by rw [hmL_c _ _ _ _ c2]; exact fL c c1 c2)
      obtain ⟨k', b1⟩ := lwts_c (d := d) (pa := pa) (pb := pb) (pu := pu) (pw := pw) k1 s16 (l1 := vI b) (l2 := vI c) 24 0 (-VS m o A b c s + sZ (gLq m o b c s) 0 16) L2 (by omega)
      have e2 : -VS m o A b c s + sZ (gLq m o b c s) 0 16 + sZ (gLd m s) 0 24 = lD m o A b c s := by unfold lD; omega
      rw [e2] at b1
      have f2 : ∀ c, c ≠ 68 → c ≠ 72 → L2 c = L c := fun c c1 c2 => by rw [a1 c c2, hmL_c _ _ _ _ c2]; exact fL c c1 c2
      obtain ⟨L3, i1, i2, i3⟩ := ih (s + 1) (j_up L2 68 s (lI (lD m o A b c s))) (some (.long (lI (lD m o A b c s)))) none (some (.int k')) (by omega) (fun c c1 c2 => by rw [j_up_cell _ c1]; exact f2 c c1 c2) (fun t ht => by
        rw [j_up_own]
        by_cases w : t = s
        · rw [if_pos w, w]
        · rw [if_neg w, a1 68 (by decide), hmL_c _ _ _ _ (by decide)]; exact hL t (by omega))
      refine ⟨L3, i1, i2, ?_⟩
      rw [show (0 : Int32) = nI 0 from rfl]
      exact (a2.trans b1).trans i3
  obtain ⟨L2, a1, a2, a3⟩ := slices 16 0 L none none none (by omega) (fun _ _ _ => rfl) (fun t ht => by omega)
  refine ⟨L2, a1, a2, ?_⟩
  rw [B111_0, if_pos (by decide), if_pos (by decide), show (6 : Int32).toNatClampNeg = 6 from rfl, show (7 : Int32).toNatClampNeg = 7 from rfl, h6, h7, l32 (by omega) (by omega), l32 (by omega) (by omega)]
  exact a3
end SEBN
