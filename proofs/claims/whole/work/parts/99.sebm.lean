/-! SEA: loads, water and liquids at rest, second one -/
section SEBM
variable {d e : Nat} {I J : Nat → Nat → Int32} {L L' : Nat → Nat → Int64} {m : Nat → Int32} {o : Nat}
/-- the water's points in a column -/
def wtr (m : Nat → Int32) (A b c : Int) (i : Nat) : Int := wP (hLo m i) (if plY A b c (i / 16) (i % 16) < hHi m i then plY A b c (i / 16) (i % 16) else hHi m i)
noncomputable def fOr (m : Nat → Int32) (o : Nat) (A b c : Int) (k : Nat) : Int := sZ (lD m o A b c) 0 k
noncomputable def bEn (m : Nat → Int32) (o : Nat) (A b c : Int) : Nat → Int
  | 0 => 0
  | k + 1 => bEn m o A b c k + fOr m o A b c k + fOr m o A b c (k + 1)
theorem rnZ.cg2 {J' : Nat → Nat → Int32} {f : Nat → Nat} {i : Nat} (h : rnZ m o J f i) (e : ∀ c, 44 ≤ c → c ≤ 47 → J' c = J c) : rnZ m o J' f i := ⟨fun i' hi => by rw [e 44 (by decide) (by decide)]; exact h.1 i' hi, h.2.1, fun i' hi => ⟨(h.2.2 i' hi).1, (h.2.2 i' hi).2.cg (fun j _ => by rw [e 45 (by decide) (by decide), e 46 (by decide) (by decide), e 47 (by decide) (by decide)]; exact ⟨rfl, rfl, rfl⟩)⟩⟩
/-- cells of water and liquids alone may differ -/
def fr42 (J J' : Nat → Nat → Int32) : Prop := ∀ c, c ≠ 42 → c ≠ 43 → J' c = J c
theorem mQ.f42 {J' : Nat → Nat → Int32} (h : mQ m I J) (e : fr42 J J') : mQ m I J' := h.frR (fun c _ c6 => e c (by omega) (by omega))
theorem lcols_r (h : mQ m I J) {f : Nat → Nat} (hz : rnZ m o J f 256) (h256 : J 44 256 = nI (f 256)) {A b c : Int} (h5 : J 0 66 = vI A) (h6 : J 0 67 = vI b) (h7 : J 0 68 = vI c) (ha : -200001 ≤ A ∧ A ≤ 200001) (hb : -2048 ≤ b ∧ b ≤ 2048) (hc : -2048 ≤ c ∧ c ≤ 2048) {s : Nat} (hs : s < 16) : ∀ (r k : Nat) (B : Int) (J1 : Nat → Nat → Int32) (L1 : Nat → Nat → Int64) (o3 o4 o5 o6 o7 : Option Value), k + r = 16 → fr42 J J1 → L1 39 s = lI B → (∀ i, i < 16 * s + k → J1 42 i = vI (wtr m A b c i)) → ∃ J2 L2 p3 p4 p5 p6 p7, fr42 J J2 ∧ J2 43 = J1 43 ∧ upL 39 s L1 L2 ∧ L2 39 s = lI (B - sZ (colF (hLo m) (hHi m) (pFo m o) A b c s) k r) ∧ (∀ i, i < 16 * (s + 1) → J2 42 i = vI (wtr m A b c i)) ∧ jv (e + 2) 322 96 [some (.ref 0), some (.int (nI s)), some (.int (nI k)), o3, o4, o5, o6, o7] [] (shR, J1, L1, pR) = jv (e + 2) 322 2 [some (.ref 0), some (.int (nI (s + 1))), some (.int (nI 16)), p3, p4, p5, p6, p7] [] (shR, J2, L2, pR) := by
  intro r
  induction r with
  | zero =>
    intro k B J1 L1 o3 o4 o5 o6 o7 hk fJ hB hw
    have : k = 16 := by omega
    subst this
    refine ⟨J1, L1, o3, o4, o5, o6, o7, fJ, rfl, upL.rfl', ?_, fun i hi => hw i (by omega), ?_⟩
    · show _ = lI (B - 0); rw [Int.sub_zero]; exact hB
    · rw [B322_96, if_neg (by decide), nI_1]
  | succ r ih =>
    intro k B J1 L1 o3 o4 o5 o6 o7 hk fJ hB hw
    have hk16 : k < 16 := by omega
    have h1 := h.f42 fJ
    obtain ⟨l0, l1, l2, l3⟩ := h.lo (i := 16 * s + k) (by omega)
    have pb := plY_b (s := s) (k := k) ha hb hc hs hk16
    have e1 : hLo m (16 * s + k) = 64 * mv m (8 + s * 9 + btX k) := by unfold hLo; rw [show (16 * s + k) / 16 = s by omega, show (16 * s + k) % 16 = k by omega]
    have e2 : hHi m (16 * s + k) = 64 * mv m (16 + s * 9) := hHi_k hk16
    have ei : (16 : Int32) * nI s + nI k = nI (16 * s + k) := by rw [show (16 : Int32) = nI 16 from rfl, nI_mul, nI_add]
    rw [B322_96, if_pos (show nI k < 16 from nI_lt (b := 16) (by omega) (by decide)), show J1 0 66 = vI A by rw [fJ 0 (by decide) (by decide)]; exact h5, show J1 0 67 = vI b by rw [fJ 0 (by decide) (by decide)]; exact h6, show J1 0 68 = vI c by rw [fJ 0 (by decide) (by decide)]; exact h7, plY_v, jgo_some (d := e + 1) rfl (btmQ_r h1 hs hk16)]
    dsimp only [Option.toList_some, List.cons_append, List.nil_append]
    rw [B322_143, v64m, ← e1, g_at_1_8 h1.2.2.2]
    dsimp only [Option.toList_some, List.cons_append, List.nil_append]
    rw [B322_160, if_pos (j_in_nI (by omega) (by decide)), nI_clamp (by omega), h1.2.1 _ (by omega), v64m, ← e2]
    -- the column's water and its runs
    have st : ∀ (u : Int), u = (if plY A b c s k < hHi m (16 * s + k) then plY A b c s k else hHi m (16 * s + k)) → ∃ J2 L2 p3 p4 p5 p6 p7, fr42 J J2 ∧ J2 43 = J1 43 ∧ upL 39 s L1 L2 ∧ L2 39 s = lI (B - sZ (colF (hLo m) (hHi m) (pFo m o) A b c s) k (r + 1)) ∧ (∀ i, i < 16 * (s + 1) → J2 42 i = vI (wtr m A b c i)) ∧ jv (e + 2) 322 176 [some (.ref 0), some (.int (nI s)), some (.int (nI k)), some (.int (vI (plY A b c s k))), some (.int (vI (hLo m (16 * s + k)))), some (.int (vI (hHi m (16 * s + k)))), o6, o7] [.int (vI u)] (shR, J1, L1, pR) = jv (e + 2) 322 2 [some (.ref 0), some (.int (nI (s + 1))), some (.int (nI 16)), p3, p4, p5, p6, p7] [] (shR, J2, L2, pR) := by
      intro u hu
      have ub : -300000 ≤ u ∧ u ≤ 300000 := by rw [hu]; split <;> omega
      have ew : wtr m A b c (16 * s + k) = wP (hLo m (16 * s + k)) u := by
        unfold wtr; rw [show (16 * s + k) / 16 = s by omega, show (16 * s + k) % 16 = k by omega, ← hu]
      have st2 : ∀ v : Int, v = wtr m A b c (16 * s + k) → ∃ J2 L2 p3 p4 p5 p6 p7, fr42 J J2 ∧ J2 43 = J1 43 ∧ upL 39 s L1 L2 ∧ L2 39 s = lI (B - sZ (colF (hLo m) (hHi m) (pFo m o) A b c s) k (r + 1)) ∧ (∀ i, i < 16 * (s + 1) → J2 42 i = vI (wtr m A b c i)) ∧ jv (e + 2) 322 204 [some (.ref 0), some (.int (nI s)), some (.int (nI k)), some (.int (vI (plY A b c s k))), some (.int (vI (hLo m (16 * s + k)))), some (.int (vI (hHi m (16 * s + k)))), some (.int (vI u)), o7] [.int (vI v), .int (nI (16 * s + k)), .ref 42] (shR, J1, L1, pR) = jv (e + 2) 322 2 [some (.ref 0), some (.int (nI (s + 1))), some (.int (nI 16)), p3, p4, p5, p6, p7] [] (shR, J2, L2, pR) := by
        intro v hv
        rw [B322_204, if_pos (j_in_nI (by omega) (by decide)), ei, if_pos (j_in_nI (by omega) (by decide)), nI_clamp (n := 16 * s + k) (by omega)]
        generalize hJ2 : j_up J1 42 (16 * s + k) (vI v) = J2
        have c42 : ∀ c, c ≠ 42 → J2 c = J1 c := fun c hc => by rw [← hJ2, j_up_cell _ hc]
        have fJ2 : fr42 J J2 := fun c k1 k2 => by rw [c42 c k1, fJ c k1 k2]
        have hC := (hz.cg2 (fun c k1 k2 => fJ2 c (by omega) (by omega))).C (by rw [fJ2 44 (by decide) (by decide)]; exact h256) (h.f42 fJ2) hs hk16
        obtain ⟨o7', L2, n1, n2, n3⟩ := lcol_r (e := e + 2) (l4 := vI (hLo m (16 * s + k))) (l5 := vI (hHi m (16 * s + k))) (l6 := vI u) hs hk16 hC pb.1 pb.2 (f (16 * s + k + 1) - f (16 * s + k)) (f (16 * s + k)) B L1 hB (Nat.le_refl _) (by have := hC.2.2.1; omega)
        have ecol : (if f (16 * s + k + 1) - f (16 * s + k) = 0 then 0 else sR (pFo m o s k) (xJ J2 45 (f (16 * s + k))) (if plY A b c s k < hHi m (16 * s + k) then plY A b c s k else hHi m (16 * s + k))) = colF (hLo m) (hHi m) (pFo m o) A b c s k := by
          obtain ⟨y1, y2, y3, y4, y5, y6, y7, y8⟩ := hC
          unfold colF
          by_cases w : f (16 * s + k + 1) - f (16 * s + k) = 0
          · have := y7 (by omega)
            rw [if_pos w, sR_nil (by split <;> omega)]
          · rw [if_neg w, y6 (by omega)]
        rw [ecol] at n2
        obtain ⟨J3, L3, p3, p4, p5, p6, p7, i1, i2, i3, i4, i5, i6⟩ := ih (k + 1) (B - colF (hLo m) (hHi m) (pFo m o) A b c s k) J2 L2 (some (.int (vI (plY A b c s k)))) (some (.int (vI (hLo m (16 * s + k))))) (some (.int (vI (hHi m (16 * s + k))))) (some (.int (vI u))) (some (.int o7')) (by omega) fJ2 n2 (fun i hi => by
          rw [← hJ2, j_up_own]
          by_cases w : i = 16 * s + k
          · rw [if_pos w, hv, w]
          · rw [if_neg w]; exact hw i (by omega))
        refine ⟨J3, L3, p3, p4, p5, p6, p7, i1, by rw [i2, c42 43 (by decide)], n1.trans i3, ?_, i5, ?_⟩
        · rw [i4, sZ_front]; congr 1; omega
        · rw [hC.1, n3, B322_302, nI_1]; exact i6
      rw [B322_176, ei]
      by_cases z : hLo m (16 * s + k) < u
      · rw [if_pos ((vI_lt (by omega) (by omega) (by omega) (by omega)).mpr z), vI_sub]
        exact st2 _ (by rw [ew, show wP (hLo m (16 * s + k)) u = u - hLo m (16 * s + k) from if_pos z])
      · rw [if_neg (fun y => z ((vI_lt (by omega) (by omega) (by omega) (by omega)).mp y)), show (0 : Int32) = vI 0 from rfl]
        exact st2 0 (by rw [ew, show wP (hLo m (16 * s + k)) u = 0 from if_neg z])
    by_cases z : plY A b c s k < hHi m (16 * s + k)
    · rw [if_pos ((vI_lt (by omega) (by omega) (by omega) (by omega)).mpr z)]
      exact st _ (by rw [if_pos z])
    · rw [if_neg (fun y => z ((vI_lt (by omega) (by omega) (by omega) (by omega)).mp y))]
      exact st _ (by rw [if_neg z])
theorem loads_r (h : mQ m I J) {f : Nat → Nat} (hz : rnZ m o J f 256) (h256 : J 44 256 = nI (f 256)) (ho : J 0 62 = nI o) {A b c : Int} (h5 : J 0 66 = vI A) (h6 : J 0 67 = vI b) (h7 : J 0 68 = vI c) (ha : -200001 ≤ A ∧ A ≤ 200001) (hb : -2048 ≤ b ∧ b ≤ 2048) (hc : -2048 ≤ c ∧ c ≤ 2048) (h40 : L 40 0 = 0) (h41 : L 41 0 = 0) : ∃ J' L', fr42 J J' ∧ (∀ c, c < 39 ∨ 41 < c → L' c = L c) ∧ (∀ i, i < 256 → J' 42 i = vI (wtr m A b c i)) ∧ (∀ p, p < 16 → hasL m o p → J' 43 p = vI (liqL m p b c)) ∧ (∀ s, s < 16 → L' 39 s = lI (lD m o A b c s)) ∧ (∀ k, k ≤ 16 → L' 40 k = lI (fOr m o A b c k) ∧ L' 41 k = lI (bEn m o A b c k)) ∧ jv (e + 5) 322 0 [some (.ref 0), none, none, none, none, none, none, none] [] (shR, J, L, pR) = some (none, (shR, J', L', pR)) := by
  have slices : ∀ (r s : Nat) (J1 : Nat → Nat → Int32) (L1 : Nat → Nat → Int64) (o2 o3 o4 o5 o6 o7 : Option Value), s + r = 16 → fr42 J J1 → (∀ i, i < 16 * s → J1 42 i = vI (wtr m A b c i)) → (∀ t, t < s → L1 39 t = lI (sZ (gLd m t) 0 24 - VS m o A b c t)) → ∃ J2 L2 p2 p3 p4 p5 p6 p7, fr42 J J2 ∧ (∀ i, i < 256 → J2 42 i = vI (wtr m A b c i)) ∧ (∀ c, c ≠ 39 → L2 c = L1 c) ∧ (∀ t, t < 16 → L2 39 t = lI (sZ (gLd m t) 0 24 - VS m o A b c t)) ∧ jv (e + 5) 322 2 [some (.ref 0), some (.int (nI s)), o2, o3, o4, o5, o6, o7] [] (shR, J1, L1, pR) = jv (e + 5) 322 316 [some (.ref 0), some (.int (nI 0)), p2, p3, p4, p5, p6, p7] [] (shR, J2, L2, pR) := by
    intro r
    induction r with
    | zero =>
      intro s J1 L1 o2 o3 o4 o5 o6 o7 hs fJ hw hL
      have : s = 16 := by omega
      subst this
      exact ⟨J1, L1, o2, o3, o4, o5, o6, o7, fJ, fun i hi => hw i (by omega), fun _ _ => rfl, hL, by rw [B322_2, if_neg (by decide)]; rfl⟩
    | succ r ih =>
      intro s J1 L1 o2 o3 o4 o5 o6 o7 hs fJ hw hL
      have s16 : s < 16 := by omega
      rw [B322_2, if_pos (show nI s < 16 from nI_lt (b := 16) (by omega) (by decide)), if_pos (j_in_nI s16 (by decide)), nI_clamp (by omega)]
      obtain ⟨L2, p3, a1, a2, a3⟩ := lwts_r (e := e + 4) (h.f42 fJ) s16 24 0 0 (j_up L1 39 s 0) o3 o4 o5 o6 o7 (by omega) (by rw [j_up_eq]; rfl)
      obtain ⟨J3, L3, q3, q4, q5, q6, q7, b1, b2, b3, b4, b5, b6⟩ := lcols_r (e := e + 3) h hz h256 h5 h6 h7 ha hb hc s16 16 0 _ J1 L2 p3 o4 o5 o6 o7 (by omega) fJ a2 (fun i hi => hw i (by omega))
      have up := ((upL.up (L := L1) (a := 39) (k := s) 0).trans a1).trans b3
      obtain ⟨J4, L4, r2, r3, r4, r5, r6, r7, i1, i2, i3, i4, i5⟩ := ih (s + 1) J3 L3 (some (.int (nI 16))) q3 q4 q5 q6 q7 (by omega) b1 b5 (fun t ht => by
        by_cases w : t = s
        · subst w; rw [b4, Int.zero_add]; rfl
        · rw [up 39 t (Or.inr w)]; exact hL t (by omega))
      refine ⟨J4, L4, r2, r3, r4, r5, r6, r7, i1, i2, fun c hc => by rw [i3 c hc]; funext j; exact up c j (Or.inl hc), i4, ?_⟩
      rw [show (0 : Int32) = nI 0 from rfl]
      refine Eq.trans a3 ?_
      refine Eq.trans b6 ?_
      exact i5
  have liqs : ∀ (r p : Nat) (J1 : Nat → Nat → Int32) (L1 : Nat → Nat → Int64) (X : Nat → Int) (o2 o3 o4 o5 o6 o7 : Option Value), p + r = 16 → fr42 J J1 → (∀ t, t < 16 → L1 39 t = lI (X t)) → (∀ q, q < p → hasL m o q → J1 43 q = vI (liqL m q b c)) → ∃ J2 L2, fr42 J J2 ∧ J2 42 = J1 42 ∧ (∀ c, c ≠ 39 → L2 c = L1 c) ∧ (∀ t, t < 16 → L2 39 t = lI (X t + sZ (gLq m o b c t) p r)) ∧ (∀ q, q < 16 → hasL m o q → J2 43 q = vI (liqL m q b c)) ∧ jv (e + 5) 322 316 [some (.ref 0), some (.int (nI p)), o2, o3, o4, o5, o6, o7] [] (shR, J1, L1, pR) = jv (e + 5) 322 368 [some (.ref 0), some (.int (nI 0)), o2, o3, o4, o5, o6, o7] [] (shR, J2, L2, pR) := by
    intro r
    induction r with
    | zero =>
      intro p J1 L1 X o2 o3 o4 o5 o6 o7 hp fJ hX hq
      have : p = 16 := by omega
      subst this
      exact ⟨J1, L1, fJ, rfl, fun _ _ => rfl, fun t ht => by show _ = lI (X t + 0); rw [Int.add_zero]; exact hX t ht, hq, by rw [B322_316, if_neg (by decide)]; rfl⟩
    | succ r ih =>
      intro p J1 L1 X o2 o3 o4 o5 o6 o7 hp fJ hX hq
      have hp16 : p < 16 := by omega
      have h1 := h.f42 fJ
      have f0 : J1 0 = J 0 := fJ 0 (by decide) (by decide)
      have jp : j_in (nI p) 16 = true := j_in_nI hp16 (by decide)
      have cp : (nI p).toNatClampNeg = p := nI_clamp (by omega)
      rw [B322_316, if_pos (show nI p < 16 from nI_lt (b := 16) (by omega) (by decide)), jgo_some (d := e + 4) rfl (hasl_r (e := e + 3) h1 (by rw [f0]; exact ho) hp16)]
      dsimp only [Option.toList_some, List.cons_append, List.nil_append]
      rw [B322_327]
      by_cases hl : hasL m o p
      · obtain ⟨g1, g2, g3, -⟩ := liq_r (e := e) (L := L1) h1 hp16 hb hc
        rw [if_pos hl, if_neg (show ¬ (1 : Int32) = 0 by decide), show J1 0 67 = vI b by rw [f0]; exact h6, show J1 0 68 = vI c by rw [f0]; exact h7, jgo_some (d := e + 4) rfl g1]
        dsimp only [Option.toList_some, List.cons_append, List.nil_append]
        rw [B322_348, if_pos jp, if_pos jp, cp, j_up_eq]
        generalize hJ2 : j_up J1 43 p (vI (liqL m p b c)) = J2
        have c43 : ∀ c, c ≠ 43 → J2 c = J1 c := fun c hc => by rw [← hJ2, j_up_cell _ hc]
        have fJ2 : fr42 J J2 := fun c k1 k2 => by rw [c43 c k2, fJ c k1 k2]
        obtain ⟨L2, b1, b2, b3⟩ := lliq_r (e := e + 1) (h.f42 fJ2) hp16 (a := liqL m p b c) (b := b) (c := c) (by omega) hb hc (by rw [fJ2 0 (by decide) (by decide)]; exact h6) (by rw [fJ2 0 (by decide) (by decide)]; exact h7) hX
        obtain ⟨J3, L3, i1, i2, i3, i4, i5, i6⟩ := ih (p + 1) J2 L2 (fun t => X t + LSl m p (liqL m p b c) b c t * mv m (401 + p * 2)) o2 o3 o4 o5 o6 o7 (by omega) fJ2 b2 (fun q q1 q2 => by
          rw [← hJ2, j_up_own]
          by_cases w : q = p
          · rw [if_pos w, w]
          · rw [if_neg w]; exact hq q (by omega) q2)
        refine ⟨J3, L3, i1, by rw [i2, c43 42 (by decide)], fun c hc => by rw [i3 c hc, b1 c hc], fun t ht => ?_, i5, ?_⟩
        · rw [i4 t ht, sZ_front, show gLq m o b c t p = LSl m p (liqL m p b c) b c t * mv m (401 + p * 2) from if_pos hl, Int.add_assoc]
        · rw [jgo_some (d := e + 4) rfl b3]
          dsimp only [Option.toList_some, Option.toList_none, List.cons_append, List.nil_append]
          rw [B322_360, nI_1]; exact i6
      · rw [if_neg hl, if_pos rfl, B322_360, nI_1]
        obtain ⟨J3, L3, i1, i2, i3, i4, i5, i6⟩ := ih (p + 1) J1 L1 X o2 o3 o4 o5 o6 o7 (by omega) fJ hX (fun q q1 q2 => by
          by_cases w : q = p
          · subst w; exact absurd q2 hl
          · exact hq q (by omega) q2)
        exact ⟨J3, L3, i1, i2, i3, fun t ht => by rw [i4 t ht, sZ_front, show gLq m o b c t p = 0 from if_neg hl, Int.zero_add], i5, i6⟩
  have ends : ∀ (r k : Nat) (J1 : Nat → Nat → Int32) (L1 : Nat → Nat → Int64) (o2 o3 o4 o5 o6 o7 : Option Value), k + r = 16 → (∀ t, t < 16 → L1 39 t = lI (lD m o A b c t)) → (∀ t, t ≤ k → L1 40 t = lI (fOr m o A b c t) ∧ L1 41 t = lI (bEn m o A b c t)) → ∃ L2, (∀ c, c ≠ 40 → c ≠ 41 → L2 c = L1 c) ∧ (∀ t, t ≤ 16 → L2 40 t = lI (fOr m o A b c t) ∧ L2 41 t = lI (bEn m o A b c t)) ∧ jv (e + 5) 322 368 [some (.ref 0), some (.int (nI k)), o2, o3, o4, o5, o6, o7] [] (shR, J1, L1, pR) = some (none, (shR, J1, L2, pR)) := by
    intro r
    induction r with
    | zero =>
      intro k J1 L1 o2 o3 o4 o5 o6 o7 hk hL hF
      have : k = 16 := by omega
      subst this
      exact ⟨L1, fun _ _ _ => rfl, hF, by rw [B322_368, if_neg (by decide)]⟩
    | succ r ih =>
      intro k J1 L1 o2 o3 o4 o5 o6 o7 hk hL hF
      have hk16 : k < 16 := by omega
      have j17 : j_in (nI k) 17 = true := j_in_nI (by omega) (by decide)
      have j16 : j_in (nI k) 16 = true := j_in_nI hk16 (by decide)
      have j18 : j_in (nI (k + 1)) 17 = true := j_in_nI (by omega) (by decide)
      have ck : (nI k).toNatClampNeg = k := nI_clamp (by omega)
      have ck1 : (nI (k + 1)).toNatClampNeg = k + 1 := nI_clamp (by omega)
      rw [B322_368, if_pos (show nI k < 16 from nI_lt (b := 16) (by omega) (by decide)), nI_1, if_pos j17, if_pos j16, if_pos j18, if_pos j17, if_pos j17, if_pos j18, if_pos j18, ck, ck1, (hF k (Nat.le_refl _)).1, hL k hk16, lI_add, j_up_nq _ (show (41 : Nat) ≠ 40 ∨ k ≠ k + 1 from Or.inl (by decide)), j_up_nq _ (show (40 : Nat) ≠ 40 ∨ k ≠ k + 1 from Or.inr (by omega)), j_up_eq, (hF k (Nat.le_refl _)).1, (hF k (Nat.le_refl _)).2, lI_add, lI_add]
      obtain ⟨L3, i1, i2, i3⟩ := ih (k + 1) J1 (j_up (j_up L1 40 (k + 1) (lI (fOr m o A b c k + lD m o A b c k))) 41 (k + 1) (lI (bEn m o A b c k + fOr m o A b c k + (fOr m o A b c k + lD m o A b c k)))) o2 o3 o4 o5 o6 o7 (by omega) (fun t ht => by rw [j_up_cell _ (by decide), j_up_cell _ (by decide)]; exact hL t ht) (fun t ht => by
        have ef : fOr m o A b c (k + 1) = fOr m o A b c k + lD m o A b c k := by show sZ _ 0 k + lD m o A b c (0 + k) = _; rw [Nat.zero_add]; rfl
        by_cases w : t = k + 1
        · subst w
          rw [j_up_eq, j_up_nq _ (Or.inl (by decide)), j_up_eq, ef]
          refine ⟨rfl, ?_⟩
          show _ = lI (bEn m o A b c k + fOr m o A b c k + fOr m o A b c (k + 1))
          rw [ef]
        · rw [j_up_nq _ (Or.inl (by decide)), j_up_nq _ (Or.inr w), j_up_nq _ (Or.inr w), j_up_nq _ (Or.inl (by decide))]
          exact hF t (by omega))
      exact ⟨L3, fun c k1 k2 => by rw [i1 c k1 k2, j_up_cell _ k2, j_up_cell _ k1], i2, i3⟩
  obtain ⟨J1, L1, p2, p3, p4, p5, p6, p7, a1, a2, a3, a4, a5⟩ := slices 16 0 J L none none none none none none (by omega) (fun _ _ _ => rfl) (fun i hi => by omega) (fun t ht => by omega)
  obtain ⟨J2, L2, b1, b2, b3, b4, b5, b6⟩ := liqs 16 0 J1 L1 _ p2 p3 p4 p5 p6 p7 (by omega) a1 a4 (fun q hq => by omega)
  obtain ⟨L3, c1, c2, c3⟩ := ends 16 0 J2 L2 p2 p3 p4 p5 p6 p7 (by omega) b4 (fun t ht => by
    have : t = 0 := by omega
    subst this
    rw [b3 40 (by decide), b3 41 (by decide), a3 40 (by decide), a3 41 (by decide), h40, h41]
    exact ⟨rfl, rfl⟩)
  refine ⟨J2, L3, b1, fun c hc => by rw [c1 c (by omega) (by omega), b3 c (by omega), a3 c (by omega)], fun i hi => by rw [b2]; exact a2 i hi, b5, fun s hs => by rw [c1 39 (by decide) (by decide)]; exact b4 s hs, c2, ?_⟩
  rw [B322_0, show (0 : Int32) = nI 0 from rfl, a5, b6, c3]
end SEBM
