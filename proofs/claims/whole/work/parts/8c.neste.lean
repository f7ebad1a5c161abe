/-! PLATES: a plate's rows of bits, in the class -/
def shpD (D : Nat → Nat → Nat → Prop) (L : Nat → Nat → Int64) : Prop := ∀ t, t < 4 → ∀ r, r < 24 → ∀ u, lbit u (L 91 (24 * t + r)) ↔ D t r u
theorem shpD.iff {D D' : Nat → Nat → Nat → Prop} {L : Nat → Nat → Int64} (S : shpD D L) (h : ∀ t r u, t < 4 → (D t r u ↔ D' t r u)) : shpD D' L := fun t ht r hr u => by rw [S t ht r hr u, h t r u ht]
theorem shpD.set {D : Nat → Nat → Nat → Prop} {L : Nat → Nat → Int64} (S : shpD D L) {t0 r0 u0 ix : Nat} (ht : t0 < 4) (hr : r0 < 24) (hu : u0 < 64) (hix : ix = 24 * t0 + r0) : shpD (fun t r u => D t r u ∨ (t = t0 ∧ r = r0 ∧ u = u0)) (j_up L 91 ix (L 91 ix ||| ((1 : Int64) <<< ((nI u0).toInt64 &&& 63)))) := fun t ht' r hr' u => by
  rw [j_up_own]
  by_cases q : t = t0 ∧ r = r0
  · obtain ⟨rfl, rfl⟩ := q
    rw [if_pos (by omega), lbit_or, hix, S t ht' r hr' u, lbit_one u0 u hu]
    constructor
    · rintro (z | z)
      · exact Or.inl z
      · exact Or.inr ⟨rfl, rfl, z⟩
    · rintro (z | ⟨-, -, z⟩)
      · exact Or.inl z
      · exact Or.inr z
  · rw [if_neg (by omega), S t ht' r hr' u]
    constructor
    · exact Or.inl
    · rintro (z | ⟨z1, z2, -⟩)
      · exact z
      · exact absurd ⟨z1, z2⟩ q
section NESTE
variable {d e : Nat} {I : Nat → Nat → Int32} {pa pb pu pw : Option Nat} {W H : Nat} {v : Nat → Int32}
def shDn (pl : Nat → Nat → Prop) (W H j i : Nat) : Nat → Nat → Nat → Prop := fun t r u => ∃ i' j', pl i' j' ∧ doneN j i i' j' ∧ tnX W H t i' j' = u ∧ tnY W H t i' j' = r
theorem sb_cell {L : Nat → Nat → Int64} (G : plIn (plV v) W H) {k i j : Nat} (hk : k < 8) (hv : ∀ j, j < 12 → I 2 (600 + k * 14 + j) = v j) (hi : i ≤ W) (hj : j ≤ H) (S : shpD (shDn (plV v) W H j i) L) (o7 : Option Value) : ∃ L', (∀ c, c ≠ 91 → L' c = L c) ∧ shpD (shDn (plV v) W H j (i + 1)) L' ∧ jv (d + 1) 115 100 [some (.ref 83), some (.ref 1), some (.int (nI k)), some (.int (nI W)), some (.int (nI H)), some (.int (nI j)), some (.int (nI i)), o7] [] (shC, I, L, pX pa pb pu pw) = jv (d + 1) 115 100 [some (.ref 83), some (.ref 1), some (.int (nI k)), some (.int (nI W)), some (.int (nI H)), some (.int (nI j)), some (.int (nI (i + 1))), o7] [] (shC, I, L', pX pa pb pu pw) := by
  obtain ⟨g1, g2, g3, -⟩ := id G
  have st : jv (d + 1) 115 100 [some (.ref 83), some (.ref 1), some (.int (nI k)), some (.int (nI W)), some (.int (nI H)), some (.int (nI j)), some (.int (nI i)), o7] [] (shC, I, L, pX pa pb pu pw) = jv (d + 1) 115 122 [some (.ref 83), some (.ref 1), some (.int (nI k)), some (.int (nI W)), some (.int (nI H)), some (.int (nI j)), some (.int (nI i)), o7] [.int (v j)] (shC, I, L, pX pa pb pu pw) := by
    rw [B115_100, if_neg (nI_nlt hi (by omega)), if_pos (show nI i < 24 from nI_lt (b := 24) (by omega) (by decide)), g_plt_c hk (by omega)]
    dsimp only [Option.toList_some, List.cons_append, List.nil_append]
    rw [hv j (by omega)]
  rw [st]
  by_cases hb : ibit i (v j)
  · have S1 := S.set (t0 := 0) (r0 := j) (u0 := i) (ix := j) (by decide) (by omega) (by omega) (by omega)
    have S2 := S1.set (t0 := 1) (r0 := i) (u0 := H - j) (ix := 24 + i) (by decide) (by omega) (by omega) (by omega)
    have S3 := S2.set (t0 := 2) (r0 := H - j) (u0 := W - i) (ix := 48 + H - j) (by decide) (by omega) (by omega) (by omega)
    have S4 := S3.set (t0 := 3) (r0 := W - i) (u0 := j) (ix := 72 + W - i) (by decide) (by omega) (by omega) (by omega)
    refine ⟨_, ?_, S4.iff (fun t r u ht => ?_), ?_⟩
    · intro c hc
      rw [j_up_cell _ hc, j_up_cell _ hc, j_up_cell _ hc, j_up_cell _ hc]
    · unfold shDn
      constructor
      · rintro ((((⟨i', j', z1, z2, z3⟩ | ⟨rfl, rfl, rfl⟩) | ⟨rfl, rfl, rfl⟩) | ⟨rfl, rfl, rfl⟩) | ⟨rfl, rfl, rfl⟩)
        · exact ⟨i', j', z1, by unfold doneN at z2 ⊢; omega, z3⟩
        · exact ⟨u, r, ⟨by omega, by omega, hb⟩, by unfold doneN; omega, rfl, rfl⟩
        · exact ⟨r, j, ⟨by omega, by omega, hb⟩, by unfold doneN; omega, rfl, rfl⟩
        · exact ⟨i, j, ⟨by omega, by omega, hb⟩, by unfold doneN; omega, rfl, rfl⟩
        · exact ⟨i, u, ⟨by omega, by omega, hb⟩, by unfold doneN; omega, rfl, rfl⟩
      · rintro ⟨i', j', z1, z2, z3, z4⟩
        by_cases q : j' = j ∧ i' = i
        · obtain ⟨rfl, rfl⟩ := q
          rcases (show t = 0 ∨ t = 1 ∨ t = 2 ∨ t = 3 by omega) with rfl | rfl | rfl | rfl
          · exact Or.inl (Or.inl (Or.inl (Or.inr ⟨rfl, z4.symm, z3.symm⟩)))
          · exact Or.inl (Or.inl (Or.inr ⟨rfl, z4.symm, z3.symm⟩))
          · exact Or.inl (Or.inr ⟨rfl, z4.symm, z3.symm⟩)
          · exact Or.inr ⟨rfl, z4.symm, z3.symm⟩
        · exact Or.inl (Or.inl (Or.inl (Or.inl ⟨i', j', z1, by unfold doneN at z2 ⊢; omega, z3, z4⟩)))
    · have x1 : 24 + nI i = nI (24 + i) := nI_add 24 i
      have x2 : 48 + nI H - nI j = nI (48 + H - j) := by rw [show 48 + nI H = nI (48 + H) from nI_add 48 H, nI_sub (by omega)]
      have x3 : 72 + nI W - nI i = nI (72 + W - i) := by rw [show 72 + nI W = nI (72 + W) from nI_add 72 W, nI_sub (by omega)]
      rw [B115_122, if_neg (fun z => ((ibit_no (by omega)).mp z) hb), x1, x2, x3, nI_sub hj, nI_sub hi, if_pos (j_in_nI (by omega) (by decide)), if_pos (j_in_nI (by omega) (by decide)), if_pos (j_in_nI (by omega) (by decide)), if_pos (j_in_nI (by omega) (by decide)), if_pos (j_in_nI (by omega) (by decide)), if_pos (j_in_nI (by omega) (by decide)), if_pos (j_in_nI (by omega) (by decide)), if_pos (j_in_nI (by omega) (by decide)), nI_clamp (n := j) (by omega), nI_clamp (n := 24 + i) (by omega), nI_clamp (n := 48 + H - j) (by omega), nI_clamp (n := 72 + W - i) (by omega), B115_205, nI_1 i]
  · refine ⟨L, fun _ _ => rfl, S.iff (fun t r u ht => ?_), ?_⟩
    · unfold shDn
      constructor
      · rintro ⟨i', j', z1, z2, z3⟩
        exact ⟨i', j', z1, by unfold doneN at z2 ⊢; omega, z3⟩
      · rintro ⟨i', j', z1, z2, z3⟩
        refine ⟨i', j', z1, ?_, z3⟩
        by_cases q : j' = j ∧ i' = i
        · obtain ⟨rfl, rfl⟩ := q
          exact absurd z1.2.2 hb
        · unfold doneN at z2 ⊢
          omega
    · rw [B115_122, if_pos ((ibit_no (by omega)).mpr hb), B115_205, nI_1 i]
theorem sb_all {L : Nat → Nat → Int64} (G : plIn (plV v) W H) {k : Nat} (hk : k < 8) (hv : ∀ j, j < 12 → I 2 (600 + k * 14 + j) = v j) (S : shpD (fun _ _ _ => False) L) (o6 o7 : Option Value) : ∃ L', (∀ c, c ≠ 91 → L' c = L c) ∧ shpD (fun t r u => ∃ i j, plV v i j ∧ tnX W H t i j = u ∧ tnY W H t i j = r) L' ∧ ∃ z6 : Option Value, jv (d + 1) 115 90 [some (.ref 83), some (.ref 1), some (.int (nI k)), some (.int (nI W)), some (.int (nI H)), some (.int (nI 0)), o6, o7] [] (shC, I, L, pX pa pb pu pw) = jv (d + 1) 115 220 [some (.ref 83), some (.ref 1), some (.int (nI k)), some (.int (nI W)), some (.int (nI H)), some (.int (nI 0)), z6, o7] [] (shC, I, L', pX pa pb pu pw) := by
  obtain ⟨g1, g2, g3, -⟩ := id G
  obtain ⟨⟨L', z6⟩, ⟨f, S'⟩, k1⟩ := j_runP (fun j (m : (Nat → Nat → Int64) × Option Value) => jv (d + 1) 115 90 [some (.ref 83), some (.ref 1), some (.int (nI k)), some (.int (nI W)), some (.int (nI H)), some (.int (nI j)), m.2, o7] [] (shC, I, m.1, pX pa pb pu pw)) (fun j m => (∀ c, c ≠ 91 → m.1 c = L c) ∧ shpD (shDn (plV v) W H j 0) m.1) (H + 1) (fun j hj m hm => by
    obtain ⟨L1, ⟨f1, S1⟩, k1⟩ := j_runP (fun i (L : Nat → Nat → Int64) => jv (d + 1) 115 100 [some (.ref 83), some (.ref 1), some (.int (nI k)), some (.int (nI W)), some (.int (nI H)), some (.int (nI j)), some (.int (nI i)), o7] [] (shC, I, L, pX pa pb pu pw)) (fun i L1 => (∀ c, c ≠ 91 → L1 c = L c) ∧ shpD (shDn (plV v) W H j i) L1) (W + 1) (fun i hi L1 hq => by
      obtain ⟨L2, b1, b2, b3⟩ := sb_cell (d := d) (pa := pa) (pb := pb) (pu := pu) (pw := pw) G hk hv (show i ≤ W by omega) (show j ≤ H by omega) hq.2 o7
      exact ⟨L2, ⟨fun c hc => (b1 c hc).trans (hq.1 c hc), b2⟩, b3⟩) m.1 hm
    refine ⟨(L1, some (.int (nI (W + 1)))), ⟨f1, S1.iff (fun t r u ht => ?_)⟩, ?_⟩
    · unfold shDn
      constructor
      · rintro ⟨i', j', z1, z2, z3⟩
        exact ⟨i', j', z1, by unfold doneN at z2 ⊢; omega, z3⟩
      · rintro ⟨i', j', z1, z2, z3⟩
        have := (g3 i' j' z1).1
        exact ⟨i', j', z1, by unfold doneN at z2 ⊢; omega, z3⟩
    · rw [B115_90, if_neg (nI_nlt (show j ≤ H by omega) (by omega))]
      refine k1.trans ?_
      rw [B115_100, if_pos (nI_lt (show W < W + 1 by omega) (by omega)), B115_211, nI_1 j]) (L, o6) ⟨fun _ _ => rfl, S.iff (fun t r u ht => ⟨False.elim, fun z => by
      obtain ⟨i', j', -, z, -⟩ := z
      unfold doneN at z
      omega⟩)⟩
  dsimp only at f S' k1
  refine ⟨L', f, S'.iff (fun t r u ht => ?_), z6, k1.trans ?_⟩
  · unfold shDn
    constructor
    · rintro ⟨i', j', z1, -, z3⟩
      exact ⟨i', j', z1, z3⟩
    · rintro ⟨i', j', z1, z3⟩
      exact ⟨i', j', z1, Or.inl (by have := (g3 i' j' z1).2; omega), z3⟩
  · rw [B115_90, if_pos (nI_lt (show H < H + 1 by omega) (by omega))]
    rfl
/-- shapePlate() of the class -/
theorem shape_c {L : Nat → Nat → Int64} (G : plIn (plV v) W H) (hz : ∀ j, j < 12 → (v j = 0 ↔ ∀ i, i < 24 → ¬ ibit i (v j))) {k : Nat} (hk : k < 8) (hv : ∀ j, j < 12 → I 2 (600 + k * 14 + j) = v j) : ∃ I' L', (∀ c, c ≠ 92 → c ≠ 93 → I' c = I c) ∧ (∀ c, c ≠ 91 → L' c = L c) ∧ shpC (plV v) W H I' L' ∧ jv (d + 1) 115 0 [some (.ref 83), some (.ref 1), some (.int (nI k)), none, none, none, none, none] [] (shC, I, L, pX pa pb pu pw) = some (none, (shC, I', L', pX pa pb pu pw)) := by
  obtain ⟨g1, g2, -⟩ := id G
  obtain ⟨z6, z7, k1⟩ := sp_max (d := d) (L := L) (pa := pa) (pb := pb) (pu := pu) (pw := pw) G hz hk hv
  generalize hL1 : va_up L 91 (j_fillL (L 91) (fun _ => 0) 96) = L1
  have f1 : ∀ c, c ≠ 91 → L1 c = L c := fun c hc => by rw [← hL1, va_up_ne _ _ hc]
  have S0 : shpD (fun _ _ _ => False) L1 := fun t ht r hr u => by
    have : L1 91 (24 * t + r) = 0 := by
      rw [← hL1, va_up_self]
      show (if 24 * t + r < 96 then (0 : Int64) else _) = 0
      rw [if_pos (by omega)]
    rw [this]
    exact ⟨fun z => lbit_0 u z, False.elim⟩
  obtain ⟨L2, f2, S2, z6', k2⟩ := sb_all (d := d) (pa := pa) (pb := pb) (pu := pu) (pw := pw) G hk hv S0 z6 z7
  obtain ⟨I', ⟨f3, S3⟩, k3⟩ := j_runP (fun t (I' : Nat → Nat → Int32) => jv (d + 1) 115 220 [some (.ref 83), some (.ref 1), some (.int (nI k)), some (.int (nI W)), some (.int (nI H)), some (.int (nI t)), z6', z7] [] (shC, I', L2, pX pa pb pu pw)) (fun t I' => (∀ c, c ≠ 92 → c ≠ 93 → I' c = I c) ∧ ∀ t', t' < t → I' 92 t' = nI (wdN W H t') ∧ I' 93 t' = nI (tlN W H t')) 4 (fun t ht I1 hq => by
    refine ⟨j_up (j_up I1 92 t (nI (wdN W H t))) 93 t (nI (tlN W H t)), ⟨fun c a b => by rw [j_up_cell _ b, j_up_cell _ a, hq.1 c a b], fun t' ht' => ?_⟩, ?_⟩
    · rw [j_up_cell (j_up I1 92 t (nI (wdN W H t))) (show (92 : Nat) ≠ 93 by decide), j_up_own, j_up_own, j_up_cell I1 (show (93 : Nat) ≠ 92 by decide)]
      by_cases q : t' = t
      · rw [if_pos q, if_pos q, q]
        exact ⟨rfl, rfl⟩
      · rw [if_neg q, if_neg q]
        exact hq.2 t' (by omega)
    · have em : nI t - nI t / 2 * 2 = nI (t % 2) := nI_mod (b := 2) (by omega) (by decide)
      rw [B115_220, if_pos (show nI t < 4 from nI_lt (b := 4) ht (by decide)), if_neg (by decide), em]
      by_cases q : t % 2 = 0
      · rw [if_pos (show nI (t % 2) = 0 by rw [q]; rfl), B115_249, if_pos (j_in_nI ht (by decide)), if_neg (by decide), em, if_pos (show nI (t % 2) = 0 by rw [q]; rfl), B115_273, if_pos (j_in_nI ht (by decide)), nI_clamp (n := t) (by omega), nI_1 t, nI_1 W, nI_1 H]
        unfold wdN tlN
        rw [if_pos q, if_pos q]
      · have q1 : ¬ nI (t % 2) = 0 := fun z => q ((nI_eq (b := 0) (by omega) (by decide)).mp z)
        rw [if_neg q1, B115_249, if_pos (j_in_nI ht (by decide)), if_neg (by decide), em, if_neg q1, B115_273, if_pos (j_in_nI ht (by decide)), nI_clamp (n := t) (by omega), nI_1 t, nI_1 W, nI_1 H]
        unfold wdN tlN
        rw [if_neg q, if_neg q]) I ⟨fun _ _ _ => rfl, fun t' ht' => absurd ht' (Nat.not_lt_zero _)⟩
  refine ⟨I', L2, f3, fun c hc => (f2 c hc).trans (f1 c hc), fun t ht => ⟨(S3 t ht).1, (S3 t ht).2, fun r hr u => S2 t ht r hr u⟩, ?_⟩
  rw [k1, B115_8, if_neg (by decide), jgo_some (d := d) rfl (fill_long (a := 91) (n := 96) rfl (by decide) 0 none none I L _), hL1]
  dsimp only [Option.toList_none, List.nil_append]
  rw [B115_87]
  refine k2.trans (k3.trans ?_)
  rw [B115_220, if_neg (by decide)]
end NESTE
