/-! SEA: the hull out of the model, first one -/
section SEAR
variable {d e : Nat} {I J : Nat → Nat → Int32} {L L' : Nat → Nat → Int64} {pa pb pu pw : Option Nat} {m : Nat → Int32}
def hLo (m : Nat → Int32) (i : Nat) : Int := 64 * mv m (8 + i / 16 * 9 + btX (i % 16))
def hHi (m : Nat → Int32) (i : Nat) : Int := 64 * mv m (8 + i / 16 * 9 + 8)
def hSF (m : Nat → Int32) (q : Nat) : Nat := if q = 0 then 0 else mNa m (153 + (q - 1) * 8)
def hST (m : Nat → Int32) (q : Nat) : Nat := if q = 0 then 15 else mNa m (154 + (q - 1) * 8)
def hCF (m : Nat → Int32) (q : Nat) : Nat := if q = 0 then 0 else mNa m (155 + (q - 1) * 8)
def hCT (m : Nat → Int32) (q : Nat) : Nat := if q = 0 then 15 else mNa m (156 + (q - 1) * 8)
def hFl (m : Nat → Int32) (q : Nat) : Int := if q = 0 then 0 else 64 * mv m (157 + (q - 1) * 8)
def hRf (m : Nat → Int32) (q : Nat) : Int := if q = 0 then 200000 else 64 * mv m (158 + (q - 1) * 8)
/-- the hull's rows but what a point of a block weighs -/
def hlE (m : Nat → Int32) (I : Nat → Nat → Int32) : Prop := (∀ i, i < 256 → I 73 i = vI (hLo m i) ∧ I 74 i = vI (hHi m i)) ∧ ∀ k, k < 17 → I 75 k = nI (hSF m k) ∧ I 76 k = nI (hST m k) ∧ I 77 k = nI (hCF m k) ∧ I 78 k = nI (hCT m k) ∧ I 79 k = vI (hFl m k) ∧ I 80 k = vI (hRf m k)
theorem btX_l (c : Nat) (h : c < 16) : btX c < 8 := by unfold btX; split <;> omega
theorem mQ.fr {I' : Nat → Nat → Int32} (h : mQ m I J) (e : ∀ q, q < 1189 → I' 2 q = I 2 q) : mQ m I' J := ⟨fun q hq => by rw [e q hq]; exact h.1 q hq, h.2⟩
theorem mQ.lo (h : mQ m I J) {i : Nat} (hi : i < 256) : 0 ≤ hLo m i ∧ hLo m i ≤ 128000 ∧ 0 ≤ hHi m i ∧ hHi m i ≤ 128000 := by
  obtain ⟨k, k1, k2⟩ := h.hull (s := i / 16) (x := btX (i % 16)) (by omega) (by have := btX_l (i % 16) (by omega); omega)
  obtain ⟨k', k1', k2'⟩ := h.hull (s := i / 16) (x := 8) (by omega) (by omega)
  unfold hLo hHi
  rw [mv_n k2 (by omega), mv_n k2' (by omega)]
  omega
theorem mQ.sp (h : mQ m I J) {q : Nat} (hq : q < 17) : hSF m q ≤ 15 ∧ hST m q ≤ 15 ∧ hCF m q ≤ 15 ∧ hCT m q ≤ 15 ∧ 0 ≤ hFl m q ∧ hFl m q ≤ 128000 ∧ 0 ≤ hRf m q ∧ hRf m q ≤ 200000 := by
  unfold hSF hST hCF hCT hFl hRf
  by_cases z : q = 0
  · simp only [z, if_true]; omega
  obtain ⟨f0, f1, f2, f3, f4, f5, f6, a0, a1, a2, a3, a4, a5, a6, m0, m1, m2, m3, m4, m5, m6⟩ := h.space (p := q - 1) (by omega)
  rw [if_neg z, if_neg z, if_neg z, if_neg z, if_neg z, if_neg z, mN_n m1 (by omega), mN_n m2 (by omega), mN_n m3 (by omega), mN_n m4 (by omega), mv_n m5 (by omega), mv_n m6 (by omega)]
  omega
theorem hull_col (h : mQ m I J) {s : Nat} (hs : s < 16) : ∀ (r k : Nat) (I : Nat → Nat → Int32), k + r = 16 → mQ m I J → (∀ i, i < 16 * s + k → I 73 i = vI (hLo m i) ∧ I 74 i = vI (hHi m i)) → ∃ I', (∀ c, c ≠ 73 → c ≠ 74 → I' c = I c) ∧ (∀ i, i < 16 * (s + 1) → I' 73 i = vI (hLo m i) ∧ I' 74 i = vI (hHi m i)) ∧ jv (d + 2) 33 10 [some (.ref 72), some (.ref 1), some (.int (nI s)), some (.int (nI k))] [] (shC, I, L, pX pa pb pu pw) = jv (d + 2) 33 2 [some (.ref 72), some (.ref 1), some (.int (nI (s + 1))), some (.int (nI 16))] [] (shC, I', L, pX pa pb pu pw) := by
  intro r
  induction r with
  | zero =>
    intro k I hk hm hi
    have k16 : k = 16 := by omega
    subst k16
    exact ⟨I, fun _ _ _ => rfl, fun i h1 => hi i (by omega), by rw [B33_10, if_neg (by decide), nI_1]⟩
  | succ r ih =>
    intro k I hk hm hi
    have e1 : (16 : Int32) * nI s + nI k = nI (16 * s + k) := by rw [show (16 : Int32) = nI 16 from rfl, nI_mul, nI_add]
    have d1 : (16 * s + k) / 16 = s := by omega
    have d2 : (16 * s + k) % 16 = k := by omega
    have v1 : (64 : Int32) * m (8 + s * 9 + btX k) = vI (hLo m (16 * s + k)) := by
      rw [hLo, d1, d2, mv_v m (8 + s * 9 + btX k), show (64 : Int32) = vI 64 from rfl, vI_mul]
    have v2 : (64 : Int32) * m (8 + s * 9 + 8) = vI (hHi m (16 * s + k)) := by
      rw [hHi, d1, mv_v m (8 + s * 9 + 8), show (64 : Int32) = vI 64 from rfl, vI_mul]
    rw [B33_10, if_pos (show nI k < 16 from nI_lt (b := 16) (by omega) (by decide)), jgo_some (d := d + 1) rfl (btmQ_c hm hs (by omega))]
    dsimp only [Option.toList_some, List.cons_append, List.nil_append]
    rw [e1, B33_34, if_pos (j_in_nI (by omega) (by decide)), nI_clamp (by omega), v1]
    have hm2 : mQ m (j_up I 73 (16 * s + k) (vI (hLo m (16 * s + k)))) J := hm.fr (fun q _ => by rw [j_up_cell _ (by decide)])
    rw [jgo_some (d := d + 1) rfl (deckQ_c hm2 hs)]
    dsimp only [Option.toList_some, List.cons_append, List.nil_append]
    rw [e1, B33_53, if_pos (j_in_nI (by omega) (by decide)), nI_clamp (by omega), v2, nI_1]
    obtain ⟨I', f1, f2, f3⟩ := ih (k + 1) (j_up (j_up I 73 (16 * s + k) (vI (hLo m (16 * s + k)))) 74 (16 * s + k) (vI (hHi m (16 * s + k)))) (by omega) (hm2.fr (fun q _ => by rw [j_up_cell _ (by decide)])) (fun i h1 => by
      rw [j_up_cell _ (show (73 : Nat) ≠ 74 by decide), j_up_own, j_up_own, j_up_cell _ (show (74 : Nat) ≠ 73 by decide)]
      by_cases z : i = 16 * s + k
      · rw [if_pos z, if_pos z, z]; exact ⟨rfl, rfl⟩
      · rw [if_neg z, if_neg z]; exact hi i (by omega))
    exact ⟨I', fun c c1 c2 => by rw [f1 c c1 c2, j_up_cell _ c2, j_up_cell _ c1], f2, f3⟩
theorem hull_c (h : mQ m I J) (h75 : I 75 0 = 0) (h77 : I 77 0 = 0) (h79 : I 79 0 = 0) : ∃ I', (∀ c, c < 73 ∨ 81 < c → I' c = I c) ∧ hlE m I' ∧ I' 81 0 = 16 ∧ (∀ k, k ≠ 0 → I' 81 k = I 81 k) ∧ jv (d + 2) 33 0 [some (.ref 72), some (.ref 1), none, none] [] (shC, I, L, pX pa pb pu pw) = some (none, (shC, I', L, pX pa pb pu pw)) := by
  have cols : ∀ (r s : Nat) (I : Nat → Nat → Int32) (o3 : Option Value), s + r = 16 → mQ m I J → (∀ i, i < 16 * s → I 73 i = vI (hLo m i) ∧ I 74 i = vI (hHi m i)) → ∃ I' o, (∀ c, c ≠ 73 → c ≠ 74 → I' c = I c) ∧ (∀ i, i < 256 → I' 73 i = vI (hLo m i) ∧ I' 74 i = vI (hHi m i)) ∧ jv (d + 2) 33 2 [some (.ref 72), some (.ref 1), some (.int (nI s)), o3] [] (shC, I, L, pX pa pb pu pw) = jv (d + 2) 33 2 [some (.ref 72), some (.ref 1), some (.int (nI 16)), o] [] (shC, I', L, pX pa pb pu pw) := by
    intro r
    induction r with
    | zero =>
      intro s I o3 hs hm hi
      have k16 : s = 16 := by omega
      subst k16
      exact ⟨I, o3, fun _ _ _ => rfl, fun i h1 => hi i (by omega), rfl⟩
    | succ r ih =>
      intro s I o3 hs hm hi
      rw [B33_2, if_pos (show nI s < 16 from nI_lt (b := 16) (by omega) (by decide))]
      obtain ⟨I1, a1, a2, a3⟩ := hull_col (d := d) (L := L) (pa := pa) (pb := pb) (pu := pu) (pw := pw) hm (s := s) (by omega) 16 0 I (by omega) hm (fun i h1 => hi i (by omega))
      obtain ⟨I2, o, b1, b2, b3⟩ := ih (s + 1) I1 (some (.int (nI 16))) (by omega) (hm.fr (fun q _ => by rw [a1 2 (by decide) (by decide)])) (fun i h1 => a2 i h1)
      exact ⟨I2, o, fun c c1 c2 => by rw [b1 c c1 c2, a1 c c1 c2], b2, by rw [← b3, ← a3]; rfl⟩
  have rows : ∀ (r p : Nat) (I : Nat → Nat → Int32) (o3 : Option Value), p + r = 16 → mQ m I J → (∀ k, k < p + 1 → I 75 k = nI (hSF m k) ∧ I 76 k = nI (hST m k) ∧ I 77 k = nI (hCF m k) ∧ I 78 k = nI (hCT m k) ∧ I 79 k = vI (hFl m k) ∧ I 80 k = vI (hRf m k)) → ∃ I', (∀ c, c < 75 ∨ 80 < c → I' c = I c) ∧ (∀ k, k < 17 → I' 75 k = nI (hSF m k) ∧ I' 76 k = nI (hST m k) ∧ I' 77 k = nI (hCF m k) ∧ I' 78 k = nI (hCT m k) ∧ I' 79 k = vI (hFl m k) ∧ I' 80 k = vI (hRf m k)) ∧ jv (d + 2) 33 101 [some (.ref 72), some (.ref 1), some (.int (nI p)), o3] [] (shC, I, L, pX pa pb pu pw) = some (none, (shC, I', L, pX pa pb pu pw)) := by
    intro r
    induction r with
    | zero =>
      intro p I o3 hp hm hi
      have k16 : p = 16 := by omega
      subst k16
      exact ⟨I, fun _ _ => rfl, fun k h1 => hi k h1, by rw [B33_101, if_neg (by decide)]⟩
    | succ r ih =>
      intro p I o3 hp hm hi
      obtain ⟨f0, f1, f2, f3, f4, f5, f6, a0, a1, a2, a3, a4, a5, a6, m0, m1, m2, m3, m4, m5, m6⟩ := hm.space (p := p) (by omega)
      have hp16 : p < 16 := by omega
      have g1 : m (153 + p * 8) = nI (hSF m (p + 1)) := by rw [hSF, if_neg (by omega), Nat.add_sub_cancel, mN_n m1 (by omega), m1]
      have g2 : m (154 + p * 8) = nI (hST m (p + 1)) := by rw [hST, if_neg (by omega), Nat.add_sub_cancel, mN_n m2 (by omega), m2]
      have g3 : m (155 + p * 8) = nI (hCF m (p + 1)) := by rw [hCF, if_neg (by omega), Nat.add_sub_cancel, mN_n m3 (by omega), m3]
      have g4 : m (156 + p * 8) = nI (hCT m (p + 1)) := by rw [hCT, if_neg (by omega), Nat.add_sub_cancel, mN_n m4 (by omega), m4]
      have g5 : (64 : Int32) * m (157 + p * 8) = vI (hFl m (p + 1)) := by
        rw [hFl, if_neg (by omega), Nat.add_sub_cancel, mv_v m (157 + p * 8), show (64 : Int32) = vI 64 from rfl, vI_mul]
      have g6 : (64 : Int32) * m (158 + p * 8) = vI (hRf m (p + 1)) := by
        rw [hRf, if_neg (by omega), Nat.add_sub_cancel, mv_v m (158 + p * 8), show (64 : Int32) = vI 64 from rfl, vI_mul]
      have jn : j_in (nI (p + 1)) 17 = true := j_in_nI (by omega) (by decide)
      have e2 : ∀ {I' : Nat → Nat → Int32}, I' 2 = I 2 → ∀ q, q < 1189 → I' 2 q = m q := fun z q hq => by rw [z]; exact hm.1 q hq
      rw [B33_101, if_pos (show nI p < 16 from nI_lt (b := 16) (by omega) (by decide)), g_of1Q_2_1 hp16, hm.1 _ (by omega), g1, nI_1]
      dsimp only [Option.toList_some, List.cons_append, List.nil_append]
      rw [B33_121, if_pos jn, nI_clamp (by omega), g_of1Q_2_2 hp16, j_up_cell _ (by decide), hm.1 _ (by omega), g2, nI_1]
      dsimp only [Option.toList_some, List.cons_append, List.nil_append]
      rw [B33_136, if_pos jn, nI_clamp (by omega), g_of1Q_2_3 hp16, j_up_cell _ (by decide), j_up_cell _ (by decide), hm.1 _ (by omega), g3, nI_1]
      dsimp only [Option.toList_some, List.cons_append, List.nil_append]
      rw [B33_151, if_pos jn, nI_clamp (by omega), g_of1Q_2_4 hp16, j_up_cell _ (by decide), j_up_cell _ (by decide), j_up_cell _ (by decide), hm.1 _ (by omega), g4, nI_1]
      dsimp only [Option.toList_some, List.cons_append, List.nil_append]
      rw [B33_166, if_pos jn, nI_clamp (by omega), g_of1Q_2_5 hp16, j_up_cell _ (by decide), j_up_cell _ (by decide), j_up_cell _ (by decide), j_up_cell _ (by decide), hm.1 _ (by omega), nI_1]
      dsimp only [Option.toList_some, List.cons_append, List.nil_append]
      rw [B33_183, if_pos jn, nI_clamp (by omega), g5, g_of1Q_2_6 hp16, j_up_cell _ (by decide), j_up_cell _ (by decide), j_up_cell _ (by decide), j_up_cell _ (by decide), j_up_cell _ (by decide), hm.1 _ (by omega), nI_1]
      dsimp only [Option.toList_some, List.cons_append, List.nil_append]
      rw [B33_202, if_pos jn, nI_clamp (by omega), g6, nI_1]
      obtain ⟨I', b1, b2, b3⟩ := ih (p + 1) (j_up (j_up (j_up (j_up (j_up (j_up I 75 (p + 1) (nI (hSF m (p + 1)))) 76 (p + 1) (nI (hST m (p + 1)))) 77 (p + 1) (nI (hCF m (p + 1)))) 78 (p + 1) (nI (hCT m (p + 1)))) 79 (p + 1) (vI (hFl m (p + 1)))) 80 (p + 1) (vI (hRf m (p + 1)))) o3 (by omega) (hm.fr (fun q _ => by
          rw [j_up_cell _ (by decide), j_up_cell _ (by decide), j_up_cell _ (by decide), j_up_cell _ (by decide), j_up_cell _ (by decide), j_up_cell _ (by decide)])) (fun k hk => by
        simp (decide := true) only [j_up_app, ↓reduceIte]
        by_cases z : k = p + 1
        · simp only [z, if_true, and_self]
        · simp only [if_neg z]; exact hi k (by omega))
      refine ⟨I', fun c hc => ?_, b2, b3⟩
      rw [b1 c hc, j_up_cell _ (by omega), j_up_cell _ (by omega), j_up_cell _ (by omega), j_up_cell _ (by omega), j_up_cell _ (by omega), j_up_cell _ (by omega)]
  obtain ⟨I1, o, a1, a2, a3⟩ := cols 16 0 I none (by omega) h (fun i h1 => by omega)
  rw [B33_0]
  rw [show (0 : Int32) = nI 0 from rfl, a3, B33_2, if_neg (by decide), if_pos (by decide), if_pos (by decide), if_pos (by decide), if_pos (by decide)]
  obtain ⟨I2, b1, b2, b3⟩ := rows 16 0 (j_up (j_up (j_up (j_up I1 76 0 15) 78 0 15) 80 0 200000) 81 0 16) o (by omega) (h.fr (fun q _ => by
    rw [j_up_cell _ (by decide), j_up_cell _ (by decide), j_up_cell _ (by decide), j_up_cell _ (by decide), a1 2 (by decide) (by decide)])) (fun k hk => by
      have k0 : k = 0 := by omega
      subst k0
      simp (decide := true) only [j_up_app, ↓reduceIte, a1]
      exact ⟨h75, rfl, h77, rfl, h79, rfl⟩)
  refine ⟨I2, fun c hc => ?_, ⟨fun i hi => ?_, b2⟩, ?_, fun k hk => ?_, b3⟩
  · rw [b1 c (by omega), j_up_cell _ (by omega), j_up_cell _ (by omega), j_up_cell _ (by omega), j_up_cell _ (by omega), a1 c (by omega) (by omega)]
  · rw [b1 73 (by decide), b1 74 (by decide)]
    simp (decide := true) only [j_up_app, ↓reduceIte]
    exact a2 i hi
  · rw [b1 81 (by decide), j_up_own, if_pos rfl]
  · rw [b1 81 (by decide), j_up_own, if_neg hk, j_up_cell _ (by decide), j_up_cell _ (by decide), j_up_cell _ (by decide), a1 81 (by decide) (by decide)]
/-- with what a point of each block weighs -/
theorem hlE.D (h : mQ m I J) (hE : hlE m I) {bt : Nat → Int} (hb : ∀ k, k < 17 → I 81 k = vI (bt k) ∧ -100 ≤ bt k ∧ bt k ≤ 100) : hlD I (hLo m) (hHi m) (hSF m) (hST m) (hCF m) (hCT m) (hFl m) (hRf m) bt := by
  refine ⟨fun i hi => ?_, fun k hk => ?_⟩
  · obtain ⟨x1, x2, x3, x4⟩ := h.lo hi
    exact ⟨(hE.1 i hi).1, x1, x2, (hE.1 i hi).2, x3, x4⟩
  · obtain ⟨e1, e2, e3, e4, e5, e6⟩ := hE.2 k hk
    obtain ⟨x1, x2, x3, x4, x5, x6, x7, x8⟩ := h.sp hk
    obtain ⟨b1, b2, b3⟩ := hb k hk
    exact ⟨e1, e2, e3, e4, x1, x2, x3, x4, e5, x5, x6, e6, x7, x8, b1, b2, b3⟩
end SEAR
