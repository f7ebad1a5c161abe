/-! SEA: what right rows mean -/
section RITA
variable {d e : Nat} {I J : Nat → Nat → Int32} {L L' : Nat → Nat → Int64} {pa pb pu pw : Option Nat} {m : Nat → Int32}
/-- a value as a whole number -/
def mv (m : Nat → Int32) (x : Nat) : Int := (m x).toInt
def mNa (m : Nat → Int32) (x : Nat) : Nat := (m x).toInt.toNat
theorem mv_v (m : Nat → Int32) (x : Nat) : m x = vI (mv m x) := (Int32.ofInt_toInt (m x)).symm
theorem mv_n {x k : Nat} (h : m x = nI k) (hk : k < 2147483648) : mv m x = k := by
  unfold mv; rw [h, nI_vI, vI_i (by omega) (by omega)]
theorem mN_n {x k : Nat} (h : m x = nI k) (hk : k < 2147483648) : mNa m x = k := by
  have := mv_n h hk
  unfold mNa
  unfold mv at this
  rw [this]; rfl
/-- two spaces share no point -/
def spA (m : Nat → Int32) (p q : Nat) : Prop := min (mNa m (154 + p * 8)) (mNa m (154 + q * 8)) < max (mNa m (153 + p * 8)) (mNa m (153 + q * 8)) ∨ min (mNa m (156 + p * 8)) (mNa m (156 + q * 8)) < max (mNa m (155 + p * 8)) (mNa m (155 + q * 8)) ∨ min (mNa m (158 + p * 8)) (mNa m (158 + q * 8)) ≤ max (mNa m (157 + p * 8)) (mNa m (157 + q * 8))
/-- a space that is right -/
def spR (m : Nat → Int32) (p : Nat) : Prop := m (152 + p * 8) = 0 ∨ (mNa m (153 + p * 8) ≤ mNa m (154 + p * 8) ∧ mNa m (155 + p * 8) ≤ mNa m (156 + p * 8) ∧ mNa m (157 + p * 8) < mNa m (158 + p * 8) ∧ ∀ q, q < p → m (152 + q * 8) = 0 ∨ spA m p q)
/-- a weight that is right -/
def wtR (m : Nat → Int32) (k : Nat) : Prop := m (280 + k * 5) = 0 ∨ mNa m (281 + k * 5) ≤ mNa m (282 + k * 5)
/-- an opening that is right -/
def opRt (m : Nat → Int32) (k : Nat) : Prop := m (432 + k * 6) = 0 ∨ (0 < m (152 + mNa m (437 + k * 6) * 8) ∧ (m (436 + k * 6) = -1 ∨ 0 < m (152 + mNa m (436 + k * 6) * 8)))
theorem space_1 (h : mT m I J) {p : Nat} (hp : p < 16) : ∃ b : Int32, jv (d + 5) 61 0 [some (.ref 3), some (.int (nI 2)), some (.int (nI p))] [] (shC, I, L, pX pa pb pu pw) = some (some (.int b), (shC, I, L, pX pa pb pu pw)) ∧ (b = 1 → spR m p) := by
  obtain ⟨f0, f1, f2, f3, f4, f5, f6, a0, a1, a2, a3, a4, a5, a6, m0, m1, m2, m3, m4, m5, m6⟩ := h.space hp
  have loop : ∀ (r q : Nat), q + r = p → ∃ b : Int32, (b = 0 ∨ b = 1) ∧ jv (d + 4) 63 52 [some (.ref 3), some (.int (nI p)), some (.int (nI q))] [] (shC, I, L, pX pa pb pu pw) = some (some (.int b), (shC, I, L, pX pa pb pu pw)) ∧ (b = 1 → ∀ q', q ≤ q' → q' < p → m (152 + q' * 8) = 0 ∨ spA m p q') := by
    intro r
    induction r with
    | zero =>
      intro q hq
      exact ⟨1, Or.inr rfl, by rw [B63_52_o3, if_neg (nI_nlt (by omega) (by omega)), if_pos bl_1], fun _ q' h1 h2 => by omega⟩
    | succ r ih =>
      intro q hq
      have hq16 : q < 16 := by omega
      obtain ⟨g0, g1, g2, g3, g4, g5, g6, c0, c1, c2, c3, c4, c5, c6, n0, n1, n2, n3, n4, n5, n6⟩ := h.space hq16
      have hA : spA m p q ↔ (min f2 g2 < max f1 g1 ∨ min f4 g4 < max f3 g3 ∨ min f6 g6 ≤ max f5 g5) := by
        unfold spA
        rw [mN_n m1 (by omega), mN_n m2 (by omega), mN_n m3 (by omega), mN_n m4 (by omega), mN_n m5 (by omega), mN_n m6 (by omega), mN_n n1 (by omega), mN_n n2 (by omega), mN_n n3 (by omega), mN_n n4 (by omega), mN_n n5 (by omega), mN_n n6 (by omega)]
      have on : (m (152 + q * 8) = 0 ∨ spA m p q) → ∃ b : Int32, (b = 0 ∨ b = 1) ∧ jv (d + 4) 63 100 [some (.ref 3), some (.int (nI p)), some (.int (nI q))] [] (shC, I, L, pX pa pb pu pw) = some (some (.int b), (shC, I, L, pX pa pb pu pw)) ∧ (b = 1 → ∀ q', q ≤ q' → q' < p → m (152 + q' * 8) = 0 ∨ spA m p q') := by
        intro hz
        obtain ⟨b, b1, b2, b3⟩ := ih (q + 1) (by omega)
        refine ⟨b, b1, by rw [B63_100_o3, nI_1]; exact b2, fun hb q' h1 h2 => ?_⟩
        by_cases w : q' = q
        · rw [w]; exact hz
        · exact b3 hb q' (by omega) h2
      rw [B63_52_o3, if_pos (nI_lt (by omega) (by omega)), jgo_some (k' := 54) rfl (kind_c h hq16), n0]
      dsimp only [Option.toList_some, List.cons_append, List.nil_append]
      rw [B63_62_o3]
      by_cases z0 : 0 < g0
      · rw [if_pos (show (0 : Int32) < nI g0 from nI_lt (a := 0) z0 (by omega)), jgo_some (k' := 64) rfl (meet_1 h hp hq16 m1 n1 m2 n2 (by omega) (by omega) (by omega) (by omega))]
        dsimp only [Option.toList_some, List.cons_append, List.nil_append]
        rw [B63_73_o3]
        by_cases z1 : min f2 g2 < max f1 g1 + 0
        · rw [if_pos z1, if_pos rfl]
          exact on (Or.inr (hA.mpr (Or.inl z1)))
        · rw [if_neg z1, if_neg (show ¬ (1 : Int32) = 0 by decide), jgo_some (k' := 64) rfl (meet_3 h hp hq16 m3 n3 m4 n4 (by omega) (by omega) (by omega) (by omega))]
          dsimp only [Option.toList_some, List.cons_append, List.nil_append]
          rw [B63_84_o3]
          by_cases z2 : min f4 g4 < max f3 g3 + 0
          · rw [if_pos z2, if_pos rfl]
            exact on (Or.inr (hA.mpr (Or.inr (Or.inl z2))))
          · rw [if_neg z2, if_neg (show ¬ (1 : Int32) = 0 by decide), jgo_some (k' := 64) rfl (meet_5 h hp hq16 m5 n5 m6 n6 a5 c5 a6 c6)]
            dsimp only [Option.toList_some, List.cons_append, List.nil_append]
            rw [B63_95_o3]
            by_cases z3 : min f6 g6 < max f5 g5 + 1
            · rw [if_pos z3, if_pos rfl]
              exact on (Or.inr (hA.mpr (Or.inr (Or.inr (by omega)))))
            · rw [if_neg z3, if_neg (show ¬ (1 : Int32) = 0 by decide), if_pos bl_0]
              exact ⟨0, Or.inl rfl, rfl, fun hb => absurd hb (by decide)⟩
      · rw [if_neg (show ¬ (0 : Int32) < nI g0 from nI_nlt (a := 0) (by omega) (by decide))]
        exact on (Or.inl (by rw [n0, show g0 = 0 by omega]; rfl))
  have inner : ∃ b : Int32, (b = 0 ∨ b = 1) ∧ jv (d + 4) 63 0 [some (.ref 3), some (.int (nI p)), none] [] (shC, I, L, pX pa pb pu pw) = some (some (.int b), (shC, I, L, pX pa pb pu pw)) ∧ (b = 1 → spR m p) := by
    rw [B63_0_o3, jgo_some (k' := 54) rfl (kind_c h hp)]
    dsimp only [Option.toList_some, List.cons_append, List.nil_append]
    rw [B63_5_o3]
    by_cases z : m (152 + p * 8) = 0
    · rw [if_pos z, if_pos bl_1]
      exact ⟨1, Or.inr rfl, rfl, fun _ => Or.inl z⟩
    rw [if_neg z, jgo_some (k' := 62) rfl (ord_2_1 h hp)]
    dsimp only [Option.toList_some, List.cons_append, List.nil_append]
    rw [B63_17_o3]
    by_cases z1 : m (154 + p * 8) < m (153 + p * 8)
    · rw [if_pos z1, if_pos rfl, B63_48_o3, if_pos bl_0]
      exact ⟨0, Or.inl rfl, rfl, fun hb => absurd hb (by decide)⟩
    rw [if_neg z1, if_neg (show ¬ (1 : Int32) = 0 by decide), jgo_some (k' := 62) rfl (ord_2_3 h hp)]
    dsimp only [Option.toList_some, List.cons_append, List.nil_append]
    rw [B63_27_o3]
    by_cases z2 : m (156 + p * 8) < m (155 + p * 8)
    · rw [if_pos z2, if_pos rfl, B63_48_o3, if_pos bl_0]
      exact ⟨0, Or.inl rfl, rfl, fun hb => absurd hb (by decide)⟩
    rw [if_neg z2, if_neg (show ¬ (1 : Int32) = 0 by decide), g_of3_2_5 hp, h.1 _ (by omega)]
    dsimp only [Option.toList_some, List.cons_append, List.nil_append]
    rw [B63_37_o3, g_of3_2_6 hp, h.1 _ (by omega)]
    dsimp only [Option.toList_some, List.cons_append, List.nil_append]
    rw [B63_45_o3]
    by_cases z3 : m (157 + p * 8) < m (158 + p * 8)
    · rw [if_pos z3]
      obtain ⟨b, b1, b2, b3⟩ := loop p 0 (Nat.zero_add _)
      refine ⟨b, b1, b2, fun hb => Or.inr ⟨?_, ?_, ?_, fun q hq => b3 hb q (Nat.zero_le _) hq⟩⟩
      · rw [mN_n m1 (by omega), mN_n m2 (by omega)]
        rw [m1, m2] at z1
        exact Nat.le_of_not_lt (fun y => z1 (nI_lt y (by omega)))
      · rw [mN_n m3 (by omega), mN_n m4 (by omega)]
        rw [m3, m4] at z2
        exact Nat.le_of_not_lt (fun y => z2 (nI_lt y (by omega)))
      · rw [mN_n m5 (by omega), mN_n m6 (by omega)]
        rw [m5, m6] at z3
        exact Nat.lt_of_not_le (fun y => (nI_nlt y (by omega)) z3)
    · rw [if_neg z3, B63_48_o3, if_pos bl_0]
      exact ⟨0, Or.inl rfl, rfl, fun hb => absurd hb (by decide)⟩
  obtain ⟨b, b1, b2, b3⟩ := inner
  refine ⟨b, ?_, b3⟩
  rw [show nI 2 = (2 : Int32) from rfl, B61_0_o3, if_pos (by decide), jgo_some rfl b2]
  dsimp only [Option.toList_some, List.cons_append, List.nil_append]
  rw [B61_57_o3, if_pos]
  rcases b1 with z | z
  · rw [z]; exact bl_0
  · rw [z]; exact bl_1
theorem weight_1 (h : mT m I J) {k : Nat} (hk : k < 24) : ∃ b : Int32, jv (d + 5) 61 0 [some (.ref 3), some (.int (nI 3)), some (.int (nI k))] [] (shC, I, L, pX pa pb pu pw) = some (some (.int b), (shC, I, L, pX pa pb pu pw)) ∧ (b = 1 → wtR m k) := by
  obtain ⟨g1, c1, n1⟩ := ok_m (h.2.2.1 (281 + k * 5) (by omega)) (a := 3) (b := k) (c := 1) (N := 15) (by decide) hk (by decide) (by show 281 + k * 5 = 280 + k * 5 + 1; omega) (by intro v hv; show v < 0; exact hv) rfl
  obtain ⟨g2, c2, n2⟩ := ok_m (h.2.2.1 (282 + k * 5) (by omega)) (a := 3) (b := k) (c := 2) (N := 15) (by decide) hk (by decide) (by show 282 + k * 5 = 280 + k * 5 + 2; omega) (by intro v hv; show v < 0; exact hv) rfl
  refine ⟨if m (280 + k * 5) = 0 then 1 else if m (282 + k * 5) < m (281 + k * 5) then 0 else 1, ?_, ?_⟩
  · rw [show nI 3 = (3 : Int32) from rfl, B61_0_o3, if_neg (by decide), if_pos (by decide), g_of3_3_0 hk, h.1 _ (by omega)]
    dsimp only [Option.toList_some, List.cons_append, List.nil_append]
    rw [B61_65_o3]
    by_cases q : m (280 + k * 5) = 0
    · rw [if_pos q, if_pos q, B61_78_o3, B61_83_o3, if_pos bl_1]
    · rw [if_neg q, if_neg q, jgo_some rfl (ord_3_1 h hk)]
      dsimp only [Option.toList_some, List.cons_append, List.nil_append]
      rw [B61_75_o3]
      by_cases q2 : m (282 + k * 5) < m (281 + k * 5)
      · rw [if_pos q2, if_pos rfl, B61_83_o3, if_pos bl_0]
      · rw [if_neg q2, if_neg (by decide), B61_78_o3, B61_83_o3, if_pos bl_1]
  · intro hb
    by_cases q : m (280 + k * 5) = 0
    · exact Or.inl q
    rw [if_neg q] at hb
    by_cases q2 : m (282 + k * 5) < m (281 + k * 5)
    · rw [if_pos q2] at hb; exact absurd hb (by decide)
    refine Or.inr ?_
    rw [mN_n n1 (by omega), mN_n n2 (by omega)]
    rw [n1, n2] at q2
    exact Nat.le_of_not_lt (fun y => q2 (nI_lt y (by omega)))
theorem opening_1 (h : mT m I J) {k : Nat} (hk : k < 8) : ∃ b : Int32, jv (d + 5) 61 0 [some (.ref 3), some (.int (nI 5)), some (.int (nI k))] [] (shC, I, L, pX pa pb pu pw) = some (some (.int b), (shC, I, L, pX pa pb pu pw)) ∧ (b = 1 → opRt m k) := by
  obtain ⟨hx, y, y1, y2⟩ := h.open_ hk
  have both : ∃ b : Int32, (b = 0 ∨ b = 1) ∧ jv (d + 4) 66 0 [some (.ref 3), some (.int (nI k)), none, none] [] (shC, I, L, pX pa pb pu pw) = some (some (.int b), (shC, I, L, pX pa pb pu pw)) ∧ (b = 1 → opRt m k) := by
    rw [B66_0_o3, g_of3_5_0 hk, h.1 _ (by omega)]
    dsimp only [Option.toList_some, List.cons_append, List.nil_append]
    rw [B66_7_o3]
    by_cases q : m (432 + k * 6) = 0
    · rw [if_pos q, if_pos bl_1]
      exact ⟨1, Or.inr rfl, rfl, fun _ => Or.inl q⟩
    rw [if_neg q, g_of3_5_4 hk, h.1 _ (by omega)]
    dsimp only [Option.toList_some, List.cons_append, List.nil_append]
    rw [B66_19_o3, g_of3_5_5 hk, h.1 _ (by omega), y2]
    dsimp only [Option.toList_some, List.cons_append, List.nil_append]
    rw [B66_27_o3, jgo_some (k' := 54) rfl (kind_c h (by omega : y < 16))]
    dsimp only [Option.toList_some, List.cons_append, List.nil_append]
    rw [B66_33_o3]
    by_cases q1 : 0 < m (152 + y * 8)
    · rw [if_pos q1]
      by_cases q2 : m (436 + k * 6) = -1
      · rw [if_pos q2, B66_54_o3, B66_59_o3, if_pos bl_1]
        exact ⟨1, Or.inr rfl, rfl, fun _ => Or.inr ⟨by rw [mN_n y2 (by omega)]; exact q1, Or.inl q2⟩⟩
      · obtain ⟨x, x1, x2⟩ := hx.resolve_left q2
        rw [if_neg q2]
        by_cases q3 : m (436 + k * 6) = nI y
        · rw [if_pos q3, B66_58_o3, B66_59_o3, if_pos bl_0]
          exact ⟨0, Or.inl rfl, rfl, fun hb => absurd hb (by decide)⟩
        · rw [if_neg q3, x2, jgo_some (k' := 54) rfl (kind_c h (by omega : x < 16))]
          dsimp only [Option.toList_some, List.cons_append, List.nil_append]
          rw [B66_51_o3]
          by_cases q4 : 0 < m (152 + x * 8)
          · rw [if_pos q4, B66_54_o3, B66_59_o3, if_pos bl_1]
            exact ⟨1, Or.inr rfl, rfl, fun _ => Or.inr ⟨by rw [mN_n y2 (by omega)]; exact q1, Or.inr (by rw [mN_n x2 (by omega)]; exact q4)⟩⟩
          · rw [if_neg q4, B66_58_o3, B66_59_o3, if_pos bl_0]
            exact ⟨0, Or.inl rfl, rfl, fun hb => absurd hb (by decide)⟩
    · rw [if_neg q1, B66_58_o3, B66_59_o3, if_pos bl_0]
      exact ⟨0, Or.inl rfl, rfl, fun hb => absurd hb (by decide)⟩
  obtain ⟨b, b1, b2, b3⟩ := both
  refine ⟨b, ?_, b3⟩
  rw [show nI 5 = (5 : Int32) from rfl, B61_0_o3, if_neg (by decide), if_neg (by decide), if_neg (by decide), if_pos (by decide), jgo_some rfl b2]
  dsimp only [Option.toList_some, List.cons_append, List.nil_append]
  rw [B61_95_o3, if_pos]
  rcases b1 with z | z
  · rw [z]; exact bl_0
  · rw [z]; exact bl_1
/-- what the right rows of a model say, as far as it is needed -/
def rtM (m : Nat → Int32) : Prop := (∀ k, k < 8 → plR m k) ∧ (∀ p, p < 16 → spR m p) ∧ (∀ k, k < 24 → wtR m k) ∧ ∀ k, k < 8 → opRt m k
/-- all rows of a table are right -/
theorem fr_rows (h : mT m I J) {t : Nat} (h2 : 2 ≤ t) (h10 : t ≤ 10) : ∀ (n r : Nat) (X : jS), r + n = rowsN.getD t 0 → jv (d + 6) 60 10 [some (.ref 3), some (.int (nI t)), some (.int (nI r))] [] (shC, I, L, pX pa pb pu pw) = some (some (.int (-1)), X) → (∀ k, r ≤ k → k < rowsN.getD t 0 → jv (d + 5) 61 0 [some (.ref 3), some (.int (nI t)), some (.int (nI k))] [] (shC, I, L, pX pa pb pu pw) = some (some (.int 1), (shC, I, L, pX pa pb pu pw)) ∧ (t = 7 → plR m k)) ∧ ∃ o, jv (d + 6) 60 2 [some (.ref 3), some (.int (nI (t + 1))), o] [] (shC, I, L, pX pa pb pu pw) = some (some (.int (-1)), X) := by
  have ht13 : t < 13 := by omega
  have jt : j_in (nI t) 13 = true := j_in_nI ht13 (by decide)
  have le := rows_lt t ht13
  intro n
  induction n with
  | zero =>
    intro r X hr hb
    refine ⟨fun k k1 k2 => by omega, some (.int (nI r)), ?_⟩
    rw [B60_10_o3, if_pos jt, nI_clamp (n := t) (by omega), tz0' t ht13, if_neg (nI_nlt (by omega) (by omega)), nI_1] at hb
    exact hb
  | succ n ih =>
    intro r X hr hb
    obtain ⟨b, ⟨b1, b2, b3⟩, b4⟩ := row_any (d := d) (e := 0) (L := L) (L' := fun _ _ => 0) (pa := pa) (pb := pb) (pu := pu) (pw := pw) h h2 h10 (show r < rowsN.getD t 0 by omega)
    rw [B60_10_o3, if_pos jt, nI_clamp (n := t) (by omega), tz0' t ht13, if_pos (nI_lt (by omega) (by omega)), jgo_some rfl b2] at hb
    dsimp only [Option.toList_some, List.cons_append, List.nil_append] at hb
    rw [B60_25_o3, if_pos jt, nI_clamp (n := t) (by omega), tz2' t ht13, nI_add, nI_1] at hb
    by_cases q : b = 0
    · rw [if_pos q] at hb
      have hb' : nI (frN.getD t 0 + r) = (-1 : Int32) := by
        have := congrArg (fun x : jO => x.map Prod.fst) hb
        simpa using this
      have := nI_pos (n := frN.getD t 0 + r) (by omega)
      rw [hb'] at this
      exact absurd (by decide) this
    · rw [if_neg q] at hb
      have hb1 := b1.resolve_left q
      obtain ⟨i1, i2⟩ := ih (r + 1) X (by omega) hb
      refine ⟨fun k k1 k2 => ?_, i2⟩
      by_cases w : k = r
      · rw [w]
        exact ⟨by rw [← hb1]; exact b2, fun h7 => b4 hb1 h7⟩
      · exact i1 k (by omega) k2
/-- no row that is not right: what that means -/
theorem fault_rt (h : mT m I J) {X : jS} (hb : jv (d + 6) 60 0 [some (.ref 3), none, none] [] (shC, I, L, pX pa pb pu pw) = some (some (.int (-1)), X)) : rtM m := by
  rw [B60_0_o3] at hb
  have st : ∀ (t : Nat) (o : Option Value), 2 ≤ t → t ≤ 10 → jv (d + 6) 60 2 [some (.ref 3), some (.int (nI t)), o] [] (shC, I, L, pX pa pb pu pw) = some (some (.int (-1)), X) → (∀ k, k < rowsN.getD t 0 → jv (d + 5) 61 0 [some (.ref 3), some (.int (nI t)), some (.int (nI k))] [] (shC, I, L, pX pa pb pu pw) = some (some (.int 1), (shC, I, L, pX pa pb pu pw)) ∧ (t = 7 → plR m k)) ∧ ∃ o, jv (d + 6) 60 2 [some (.ref 3), some (.int (nI (t + 1))), o] [] (shC, I, L, pX pa pb pu pw) = some (some (.int (-1)), X) := by
    intro t o h2 h10 hb
    rw [B60_2_o3, if_pos (show nI t < 11 from nI_lt (b := 11) (by omega) (by decide))] at hb
    obtain ⟨i1, i2⟩ := fr_rows h h2 h10 (rowsN.getD t 0) 0 X (Nat.zero_add _) hb
    exact ⟨fun k hk => i1 k (Nat.zero_le _) hk, i2⟩
  obtain ⟨r2, o2, c2⟩ := st 2 none (by decide) (by decide) hb
  obtain ⟨r3, o3, c3⟩ := st 3 o2 (by decide) (by decide) c2
  obtain ⟨r4, o4, c4⟩ := st 4 o3 (by decide) (by decide) c3
  obtain ⟨r5, o5, c5⟩ := st 5 o4 (by decide) (by decide) c4
  obtain ⟨r6, o6, c6⟩ := st 6 o5 (by decide) (by decide) c5
  obtain ⟨r7, o7, c7⟩ := st 7 o6 (by decide) (by decide) c6
  have one : ∀ {b : Int32} {S : jS}, some (some (Value.int b), S) = some (some (Value.int 1), S) → b = 1 := by
    intro b S hz
    have := congrArg (fun x : jO => x.map Prod.fst) hz
    simpa using this
  refine ⟨fun k hk => (r7 k hk).2 rfl, fun p hp => ?_, fun k hk => ?_, fun k hk => ?_⟩
  · obtain ⟨b, b1, b2⟩ := space_1 (d := d) (L := L) (pa := pa) (pb := pb) (pu := pu) (pw := pw) h hp
    rw [(r2 p hp).1] at b1
    exact b2 (one b1.symm)
  · obtain ⟨b, b1, b2⟩ := weight_1 (d := d) (L := L) (pa := pa) (pb := pb) (pu := pu) (pw := pw) h hk
    rw [(r3 k hk).1] at b1
    exact b2 (one b1.symm)
  · obtain ⟨b, b1, b2⟩ := opening_1 (d := d) (L := L) (pa := pa) (pb := pb) (pu := pu) (pw := pw) h hk
    rw [(r5 k hk).1] at b1
    exact b2 (one b1.symm)
/-- what is taken is right -/
theorem settle_rt38 {b : Nat → Int32} (hd : 160 ≤ d) (hm : mT b I J) {x : Int32} {S : jS} (hx : ¬ x < 0) (hs : jv d 185 0 [some (.ref 0), none, none, none] [] (shC, I, L, pX (some 38) (some 49) pu pw) = some (some (.int x), S)) : rtM b := by
  obtain ⟨d, rfl⟩ : ∃ d', d = d' + 7 := ⟨d - 7, by omega⟩
  rw [B185_0_g38] at hs
  rcases fault_u (d := d) (e := 0) (L := L) (L' := fun _ _ => 0) (pa := some 38) (pb := some 49) (pu := pu) (pw := pw) hm with ⟨w, hw, f1, -⟩ | ⟨-, f1, -⟩
  · rw [jgo_some (d := d + 6) rfl f1] at hs
    dsimp only [Option.toList_some, Option.toList_none, List.cons_append, List.nil_append] at hs
    rw [B185_7_g38, if_neg (nI_pos (by omega))] at hs
    have := congrArg (fun x : jO => x.map Prod.fst) hs
    have : -300 - nI w = x := by simpa using this
    exact absurd (by rw [← this]; exact nI_m300 w (by omega)) hx
  · exact fault_rt hm f1
/-- what is taken is right -/
theorem settle_rt49 {b : Nat → Int32} (hd : 160 ≤ d) (hm : mT b I J) {x : Int32} {S : jS} (hx : ¬ x < 0) (hs : jv d 185 0 [some (.ref 0), none, none, none] [] (shC, I, L, pX (some 49) (some 38) pu pw) = some (some (.int x), S)) : rtM b := by
  obtain ⟨d, rfl⟩ : ∃ d', d = d' + 7 := ⟨d - 7, by omega⟩
  rw [B185_0_g49] at hs
  rcases fault_u (d := d) (e := 0) (L := L) (L' := fun _ _ => 0) (pa := some 49) (pb := some 38) (pu := pu) (pw := pw) hm with ⟨w, hw, f1, -⟩ | ⟨-, f1, -⟩
  · rw [jgo_some (d := d + 6) rfl f1] at hs
    dsimp only [Option.toList_some, Option.toList_none, List.cons_append, List.nil_append] at hs
    rw [B185_7_g49, if_neg (nI_pos (by omega))] at hs
    have := congrArg (fun x : jO => x.map Prod.fst) hs
    have : -300 - nI w = x := by simpa using this
    exact absurd (by rw [← this]; exact nI_m300 w (by omega)) hx
  · exact fault_rt hm f1
end RITA
