/-! SEA: laying the runs, second one -/
section SEAT
variable {d e : Nat} {I J : Nat → Nat → Int32} {L L' : Nat → Nat → Int64} {pa pb pu pw : Option Nat} {m : Nat → Int32} {o : Nat}
theorem nI_bit {n u : Nat} (hu : u < 32) : (nI n).toBitVec.getLsbD u = n.testBit u := by
  have : (nI n).toBitVec = BitVec.ofNat 32 n := by first | rfl | exact BitVec.ofInt_natCast 32 n
  rw [this, BitVec.getLsbD_ofNat]; simp [hu]
theorem bit_0 {n u : Nat} (hu : u < 32) : ((nI n >>> (nI u &&& 31)) &&& 1) = 0 ↔ n.testBit u = false := by
  rw [i_shr _ hu, nI_bit hu]
theorem bit_1 {n u : Nat} (hu : u < 32) : ((nI n >>> (nI u &&& 31)) &&& 1) = 1 ↔ n.testBit u = true := by
  rw [ibit_1 hu, ibit, nI_bit hu]
/-- whether a space is open, second one -/
theorem open_r (ho : J 0 62 = nI o) {p : Nat} (hp : p < 16) : jv e 300 0 [some (.ref 0), some (.int (nI p))] [] (shR, J, L, pR) = some (some (.int (if o.testBit p = true then 1 else 0)), (shR, J, L, pR)) := by
  rw [B300_0, if_neg (nI_pos (by omega)), ho]
  by_cases z : o.testBit p = true
  · rw [if_pos ((bit_1 (by omega)).mpr z), if_pos z, B300_21, if_pos bl_1]
  · rw [if_neg (fun y => z ((bit_1 (by omega)).mp y)), if_neg z, B300_20, B300_21, if_pos bl_0]
theorem isin_r (h : mQ m I J) {p s k : Nat} (hp : p < 16) (hs : s < 16) (hk : k < 16) (h0 : m (152 + p * 8) ≠ 0) : jv (e + 1) 299 0 [some (.ref 0), some (.int (nI p)), some (.int (nI s)), some (.int (nI k)), none] [] (shR, J, L, pR) = some (some (.int (if mNa m (153 + p * 8) ≤ s ∧ s ≤ mNa m (154 + p * 8) ∧ mNa m (155 + p * 8) ≤ k ∧ k ≤ mNa m (156 + p * 8) then 1 else 0)), (shR, J, L, pR)) := by
  obtain ⟨f0, f1, f2, f3, f4, f5, f6, a0, a1, a2, a3, a4, a5, a6, m0, m1, m2, m3, m4, m5, m6⟩ := h.space hp
  have ee : ∀ x, nI (152 + p * 8) + nI x = nI (152 + x + p * 8) := fun x => by rw [nI_add, show 152 + p * 8 + x = 152 + x + p * 8 by omega]
  have jj : ∀ x, x < 8 → j_in (nI (152 + x + p * 8)) 1189 = true := fun x hx => j_in_nI (by omega) (by decide)
  have f0p : 0 < f0 := Nat.pos_of_ne_zero (fun z => h0 (by rw [m0, z]; rfl))
  rw [mN_n m1 (by omega), mN_n m2 (by omega), mN_n m3 (by omega), mN_n m4 (by omega), B299_0, g_at_2_0 h.2.2.2]
  dsimp only [Option.toList_some, List.cons_append, List.nil_append]
  rw [B299_7, show nI (152 + p * 8) + 1 = nI (153 + p * 8) from ee 1, show nI (152 + p * 8) + 2 = nI (154 + p * 8) from ee 2, show nI (152 + p * 8) + 3 = nI (155 + p * 8) from ee 3, show nI (152 + p * 8) + 4 = nI (156 + p * 8) from ee 4, if_pos (jj 0 (by decide)), nI_clamp (n := 152 + p * 8) (by omega), h.2.1 _ (by omega), m0, if_pos (show (0 : Int32) < nI f0 from nI_lt (a := 0) f0p (by omega)), if_pos (jj 1 (by decide)), nI_clamp (n := 153 + p * 8) (by omega), h.2.1 (153 + p * 8) (by omega), m1]
  by_cases z1 : s < f1
  · rw [if_pos (nI_lt z1 (by omega)), B299_75, B299_76, if_pos bl_0, if_neg (by omega)]
  rw [if_neg (nI_nlt (by omega) (by omega)), if_pos (jj 2 (by decide)), nI_clamp (n := 154 + p * 8) (by omega), h.2.1 (154 + p * 8) (by omega), m2]
  by_cases z2 : f2 < s
  · rw [if_pos (nI_lt z2 (by omega)), B299_75, B299_76, if_pos bl_0, if_neg (by omega)]
  rw [if_neg (nI_nlt (by omega) (by omega)), if_pos (jj 3 (by decide)), nI_clamp (n := 155 + p * 8) (by omega), h.2.1 (155 + p * 8) (by omega), m3]
  by_cases z3 : k < f3
  · rw [if_pos (nI_lt z3 (by omega)), B299_75, B299_76, if_pos bl_0, if_neg (by omega)]
  rw [if_neg (nI_nlt (by omega) (by omega)), if_pos (jj 4 (by decide)), nI_clamp (n := 156 + p * 8) (by omega), h.2.1 (156 + p * 8) (by omega), m4]
  by_cases z4 : f4 < k
  · rw [if_pos (nI_lt z4 (by omega)), B299_75, B299_76, if_pos bl_0, if_neg (by omega)]
  rw [if_neg (nI_nlt (by omega) (by omega)), B299_76, if_pos bl_1, if_pos (by omega)]
/-- one run, after some spaces -/
def rnI (m : Nat → Int32) (o s k : Nat) (z en : Int) (p : Nat) (bits to : Int) : Prop := z < to ∧ to ≤ en ∧ (∀ p', p' < p → oA m o s k p' → ∀ y, z ≤ y → y < to → (hIn m p' y ↔ hIn m p' z)) ∧ (((∀ p', p' < p → oA m o s k p' → ¬ hIn m p' z) ∧ bits = 16) ∨ ∃ p', p' < p ∧ oA m o s k p' ∧ hIn m p' z ∧ bits = mv m (159 + p' * 8)) ∧ (to = en ∨ ∃ p', p' < 16 ∧ (to = 64 * mv m (157 + p' * 8) ∨ to = 64 * mv m (158 + p' * 8)))
theorem run_p (h : mQ m I J) (ho : J 0 62 = nI o) (hk : opKd m o) {s k : Nat} (hs : s < 16) (hk16 : k < 16) {z en : Int} (z0 : 0 ≤ z) (e0 : en ≤ 128000) {l1 : Int32} : ∀ (r p : Nat) (bits to : Int) (o9 o10 : Option Value), p + r = 16 → rnI m o s k z en p bits to → ∃ bits' to' p9 p10, rnI m o s k z en 16 bits' to' ∧ jv (e + 2) 301 81 [some (.ref 0), some (.int l1), some (.int (nI s)), some (.int (nI k)), some (.int (vI z)), some (.int (vI en)), some (.int (vI bits)), some (.int (vI to)), some (.int (nI p)), o9, o10] [] (shR, J, L, pR) = jv (e + 2) 301 81 [some (.ref 0), some (.int l1), some (.int (nI s)), some (.int (nI k)), some (.int (vI z)), some (.int (vI en)), some (.int (vI bits')), some (.int (vI to')), some (.int (nI 16)), p9, p10] [] (shR, J, L, pR) := by
  intro r
  induction r with
  | zero =>
    intro p bits to o9 o10 hp hR
    have : p = 16 := by omega
    subst this
    exact ⟨bits, to, o9, o10, hR, rfl⟩
  | succ r ih =>
    intro p bits to o9 o10 hp hR
    have hp16 : p < 16 := by omega
    obtain ⟨r1, r2, r3, r4, r5⟩ := id hR
    -- what is left when this space does nothing
    have skip : ¬ oA m o s k p → rnI m o s k z en (p + 1) bits to := by
      intro na
      refine ⟨r1, r2, fun p' hp' ha y y1 y2 => ?_, ?_, r5⟩
      · by_cases w : p' = p
        · exact absurd (w ▸ ha) na
        · exact r3 p' (by omega) ha y y1 y2
      · rcases r4 with ⟨n1, n2⟩ | ⟨p', n1, n2, n3, n4⟩
        · refine Or.inl ⟨fun p' hp' ha => ?_, n2⟩
          by_cases w : p' = p
          · exact absurd (w ▸ ha) na
          · exact n1 p' (by omega) ha
        · exact Or.inr ⟨p', by omega, n2, n3, n4⟩
    rw [B301_81, if_pos (show nI p < 16 from nI_lt (b := 16) (by omega) (by decide)), jgo_some (d := e + 1) rfl (open_r ho hp16)]
    dsimp only [Option.toList_some, List.cons_append, List.nil_append]
    rw [B301_94]
    by_cases q1 : o.testBit p = true
    case neg =>
      rw [if_neg q1, if_pos rfl, B301_212, nI_1]
      exact ih (p + 1) bits to o9 o10 (by omega) (skip (fun a => q1 a.1))
    rw [if_pos q1, if_neg (show ¬ (1 : Int32) = 0 by decide), jgo_some (d := e + 1) rfl (isin_r h hp16 hs hk16 (hk p hp16 q1))]
    dsimp only [Option.toList_some, List.cons_append, List.nil_append]
    rw [B301_105]
    by_cases q2 : mNa m (153 + p * 8) ≤ s ∧ s ≤ mNa m (154 + p * 8) ∧ mNa m (155 + p * 8) ≤ k ∧ k ≤ mNa m (156 + p * 8)
    case neg =>
      rw [if_neg q2, if_pos rfl, B301_212, nI_1]
      exact ih (p + 1) bits to o9 o10 (by omega) (skip (fun a => q2 a.2))
    have hA : oA m o s k p := ⟨q1, q2⟩
    have b5 := h.sp (q := p + 1) (by omega)
    unfold hFl hRf at b5
    rw [if_neg (show ¬ p + 1 = 0 by omega), if_neg (show ¬ p + 1 = 0 by omega), Nat.add_sub_cancel] at b5
    have b7 := h.f7 hp16
    have v5 : (64 : Int32) * m (157 + p * 8) = vI (64 * mv m (157 + p * 8)) := by
      rw [show (64 : Int32) = vI 64 from rfl, mv_v m (157 + p * 8), vI_mul]
    have v6 : (64 : Int32) * m (158 + p * 8) = vI (64 * mv m (158 + p * 8)) := by
      rw [show (64 : Int32) = vI 64 from rfl, mv_v m (158 + p * 8), vI_mul]
    generalize hw : 64 * mv m (157 + p * 8) = lw at *
    generalize hg : 64 * mv m (158 + p * 8) = hg' at *
    have hin : ∀ y, hIn m p y ↔ lw ≤ y ∧ y < hg' := fun y => by unfold hIn; rw [hw, hg]
    rw [if_pos q2, if_neg (show ¬ (1 : Int32) = 0 by decide), g_at_2_5 h.2.2.2]
    dsimp only [Option.toList_some, List.cons_append, List.nil_append]
    rw [B301_122, if_pos (j_in_nI (by omega) (by decide)), nI_clamp (by omega), h.2.1 _ (by omega), v5, g_at_2_6 h.2.2.2]
    dsimp only [Option.toList_some, List.cons_append, List.nil_append]
    rw [B301_141, if_pos (j_in_nI (by omega) (by decide)), nI_clamp (by omega), h.2.1 _ (by omega), v6]
    -- the space begins above z
    by_cases w1 : z < lw
    · rw [if_pos ((vI_lt (by omega) (by omega) (by omega) (by omega)).mpr w1), B301_194, if_pos ((vI_lt (by omega) (by omega) (by omega) (by omega)).mpr w1)]
      have out : ∀ to', to' ≤ lw → z < to' → to' ≤ to → (to' = to ∨ to' = lw) → rnI m o s k z en (p + 1) bits to' := by
        intro to' t1 t2 t3 t4
        refine ⟨t2, by omega, fun p' hp' ha y y1 y2 => ?_, ?_, ?_⟩
        · by_cases w : p' = p
          · subst w; rw [hin, hin]; omega
          · exact r3 p' (by omega) ha y y1 (by omega)
        · rcases r4 with ⟨n1, n2⟩ | ⟨p', n1, n2, n3, n4⟩
          · refine Or.inl ⟨fun p' hp' ha => ?_, n2⟩
            by_cases w : p' = p
            · subst w; rw [hin]; omega
            · exact n1 p' (by omega) ha
          · exact Or.inr ⟨p', by omega, n2, n3, n4⟩
        · rcases t4 with t4 | t4
          · rw [t4]; exact r5
          · exact Or.inr ⟨p, hp16, Or.inl (by rw [t4, hw])⟩
      by_cases w2 : lw < to
      · rw [if_pos ((vI_lt (by omega) (by omega) (by omega) (by omega)).mpr w2), B301_212, nI_1]
        exact ih (p + 1) bits lw _ _ (by omega) (out lw (by omega) w1 (by omega) (Or.inr rfl))
      · rw [if_neg (fun y => w2 ((vI_lt (by omega) (by omega) (by omega) (by omega)).mp y)), B301_212, nI_1]
        exact ih (p + 1) bits to _ _ (by omega) (out to (by omega) r1 (by omega) (Or.inl rfl))
    rw [if_neg (fun y => w1 ((vI_lt (by omega) (by omega) (by omega) (by omega)).mp y))]
    by_cases w3 : z < hg'
    · -- z lies in it
      have hz : hIn m p z := (hin z).mpr ⟨by omega, w3⟩
      have inn : ∀ to', to' ≤ hg' → z < to' → to' ≤ to → (to' = to ∨ to' = hg') → rnI m o s k z en (p + 1) (mv m (159 + p * 8)) to' := by
        intro to' t1 t2 t3 t4
        refine ⟨t2, by omega, fun p' hp' ha y y1 y2 => ?_, Or.inr ⟨p, by omega, hA, hz, rfl⟩, ?_⟩
        · by_cases w : p' = p
          · subst w; rw [hin, hin]; omega
          · exact r3 p' (by omega) ha y y1 (by omega)
        · rcases t4 with t4 | t4
          · rw [t4]; exact r5
          · exact Or.inr ⟨p, hp16, Or.inr (by rw [t4, hg])⟩
      rw [if_pos ((vI_lt (by omega) (by omega) (by omega) (by omega)).mpr w3), g_at_2_7 h.2.2.2]
      dsimp only [Option.toList_some, List.cons_append, List.nil_append]
      rw [B301_172, if_pos (j_in_nI (by omega) (by decide)), nI_clamp (by omega), h.2.1 _ (by omega), mv_v m (159 + p * 8)]
      by_cases w4 : hg' < to
      · rw [if_pos ((vI_lt (by omega) (by omega) (by omega) (by omega)).mpr w4), B301_189, B301_212, nI_1]
        exact ih (p + 1) _ hg' _ _ (by omega) (inn hg' (by omega) w3 (by omega) (Or.inr rfl))
      · rw [if_neg (fun y => w4 ((vI_lt (by omega) (by omega) (by omega) (by omega)).mp y)), B301_189, B301_212, nI_1]
        exact ih (p + 1) _ to _ _ (by omega) (inn to (by omega) r1 (by omega) (Or.inl rfl))
    · -- z lies above it
      rw [if_neg (fun y => w3 ((vI_lt (by omega) (by omega) (by omega) (by omega)).mp y)), B301_194, if_neg (fun y => w1 ((vI_lt (by omega) (by omega) (by omega) (by omega)).mp y)), B301_212, nI_1]
      refine ih (p + 1) bits to _ _ (by omega) ⟨r1, r2, fun p' hp' ha y y1 y2 => ?_, ?_, r5⟩
      · by_cases w : p' = p
        · subst w; rw [hin, hin]; omega
        · exact r3 p' (by omega) ha y y1 (by omega)
      · rcases r4 with ⟨n1, n2⟩ | ⟨p', n1, n2, n3, n4⟩
        · refine Or.inl ⟨fun p' hp' ha => ?_, n2⟩
          by_cases w : p' = p
          · subst w; rw [hin]; omega
          · exact n1 p' (by omega) ha
        · exact Or.inr ⟨p', by omega, n2, n3, n4⟩
/-- on a run a point weighs the same everywhere -/
theorem rnI.F (h : mQ m I J) (hr : ∀ p, p < 16 → spR m p) (ho : opKd m o) {s k : Nat} (hs : s < 16) (hk : k < 16) {z en bits to : Int} (z0 : 0 ≤ z) (e0 : en ≤ 128000) (hR : rnI m o s k z en 16 bits to) : (0 ≤ bits ∧ bits ≤ 16) ∧ ∀ y, z ≤ y → y < to → pFo m o s k y = bits := by
  obtain ⟨r1, r2, r3, r4, r5⟩ := hR
  rcases r4 with ⟨n1, n2⟩ | ⟨p', n1, n2, n3, n4⟩
  · refine ⟨by omega, fun y y1 y2 => ?_⟩
    rw [n2]
    exact pF_none hs hk (by omega) (by omega) (fun p hp ha hi => n1 p hp ha ((r3 p hp ha y y1 y2).mp hi))
  · rw [n4]
    refine ⟨h.f7 n1, fun y y1 y2 => ?_⟩
    exact pF_in h hr ho hs hk (by omega) (by omega) n1 n2 ((r3 p' n1 n2 y y1 y2).mpr n3)
/-- the ends that lie above a height -/
def cB (m : Nat → Int32) (z : Int) : Nat → Nat
  | 0 => 0
  | n + 1 => cB m z n + (if z < 64 * mv m (157 + n * 8) then 1 else 0) + (if z < 64 * mv m (158 + n * 8) then 1 else 0)
theorem cB_le (z : Int) : ∀ n, cB m z n ≤ 2 * n := by
  intro n
  induction n with
  | zero => exact Nat.le_refl _
  | succ n ih => unfold cB; split <;> split <;> omega
theorem cB_mono {z z' : Int} (h : z ≤ z') : ∀ n, cB m z' n ≤ cB m z n := by
  intro n
  induction n with
  | zero => exact Nat.le_refl _
  | succ n ih => unfold cB; (repeat' split) <;> omega
theorem cB_lt {z z' : Int} (h : z < z') {p : Nat} (hz : z' = 64 * mv m (157 + p * 8) ∨ z' = 64 * mv m (158 + p * 8)) : ∀ n, p < n → cB m z' n < cB m z n := by
  intro n
  induction n with
  | zero => intro hp; omega
  | succ n ih =>
    intro hp
    by_cases w : p = n
    · subst w
      have := cB_mono (m := m) (Int.le_of_lt h) p
      unfold cB
      rcases hz with hz | hz <;> (repeat' split) <;> omega
    · have := ih (by omega)
      unfold cB
      (repeat' split) <;> omega
end SEAT
