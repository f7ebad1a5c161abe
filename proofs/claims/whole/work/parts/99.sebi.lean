/-! SEA: what is flooded, both -/
section SEBI
variable {d e : Nat} {I J : Nat → Nat → Int32} {L L' : Nat → Nat → Int64} {pa pb pu pw : Option Nat} {m : Nat → Int32} {o : Nat}
theorem mQ.open_ (h : mQ m I J) {k : Nat} (hk : k < 8) : (m (436 + k * 6) = -1 ∨ ∃ x, x ≤ 15 ∧ m (436 + k * 6) = nI x) ∧ (∃ y, y ≤ 15 ∧ m (437 + k * 6) = nI y) ∧ (∃ s, s ≤ 15 ∧ m (433 + k * 6) = nI s) ∧ (∃ c, c ≤ 15 ∧ m (434 + k * 6) = nI c) ∧ ∃ z, z ≤ 2000 ∧ m (435 + k * 6) = nI z := by
  have g : ∀ (f N : Nat), f < 6 → mostv 5 f = nI N → (∀ v : Int32, v < 0 → v < leastv 5 f) → ∃ y, y ≤ N ∧ m (432 + f + k * 6) = nI y := fun f N hf hm hl => ok_m (h.2.2.1 (432 + f + k * 6) (by omega)) (a := 5) (b := k) (c := f) (N := N) (by decide) hk hf (by show 432 + f + k * 6 = 432 + k * 6 + f; omega) hl hm
  refine ⟨?_, g 5 15 (by decide) rfl (fun v hv => hv), g 1 15 (by decide) rfl (fun v hv => hv), g 2 15 (by decide) rfl (fun v hv => hv), g 3 2000 (by decide) rfl (fun v hv => hv)⟩
  have h1 := (h.2.2.1 (436 + k * 6) (by omega)).1 5 k 4 (by decide) hk (by decide) (by show 436 + k * 6 = 432 + k * 6 + 4; omega)
  unfold mbv at h1
  rw [show leastv 5 4 = -1 from rfl, show mostv 5 4 = nI 15 from rfl] at h1
  by_cases h2 : m (436 + k * 6) < -1
  · rw [if_pos h2] at h1; exact absurd h1 (by decide)
  rw [if_neg h2] at h1
  by_cases h3 : nI 15 < m (436 + k * 6)
  · rw [if_pos h3] at h1; exact absurd h1 (by decide)
  by_cases h4 : m (436 + k * 6) < 0
  · left
    rw [Int32.lt_iff_toInt_lt] at h2 h4
    have e1 : (-1 : Int32).toInt = -1 := by decide
    have e0 : (0 : Int32).toInt = 0 := by decide
    apply Int32.toInt_inj.mp
    omega
  · right
    obtain ⟨j, j1, j2⟩ := nI_of h4
    refine ⟨j, ?_, j2⟩
    rw [j2] at h3
    exact Nat.le_of_not_lt (fun y => h3 (nI_lt y (by omega)))
theorem sh1_c : ∀ u, u < 17 → ∀ i, i < 32 → ((1 : Int32) <<< (nI u &&& 31)).toBitVec.getLsbD i = decide (i = u) := by decide +kernel
theorem or_bit (x : Int32) {u i : Nat} (hu : u < 17) (hi : i < 32) : (x ||| ((1 : Int32) <<< (nI u &&& 31))).toBitVec.getLsbD i = true ↔ x.toBitVec.getLsbD i = true ∨ i = u := by
  rw [Int32.toBitVec_or, BitVec.getLsbD_or, sh1_c u hu i hi]
  simp
theorem and_bit {o u : Nat} (hu : u < 17) : nI o &&& ((1 : Int32) <<< (nI u &&& 31)) = 0 ↔ o.testBit u = false := by
  rw [i_eq0]
  constructor
  · intro h
    have := h u (by omega)
    rw [Int32.toBitVec_and, BitVec.getLsbD_and, sh1_c u hu u (by omega), nI_bit (by omega)] at this
    simpa using this
  · intro h i hi
    rw [Int32.toBitVec_and, BitVec.getLsbD_and, sh1_c u hu i hi, nI_bit hi]
    by_cases z : i = u
    · subst z; rw [h]; rfl
    · simp [z]
theorem of_bits {v : Int32} (h : ∀ i, 16 ≤ i → i < 32 → v.toBitVec.getLsbD i = false) : ∃ n, n < 65536 ∧ v = nI n := by
  refine ⟨v.toBitVec.toNat, ?_, ?_⟩
  · have := Nat.lt_pow_two_of_testBit (n := 16) v.toBitVec.toNat (fun i hi => by
      by_cases z : i < 32
      · exact h i hi z
      · exact BitVec.getLsbD_of_ge _ _ (by omega))
    exact this
  · apply Int32.toBitVec_inj.mp
    have h1 : (nI v.toBitVec.toNat).toBitVec = BitVec.ofNat 32 v.toBitVec.toNat := by first | rfl | exact BitVec.ofInt_natCast 32 _
    rw [h1, BitVec.ofNat_toNat]; simp
theorem or_nI (a b : Nat) : nI a ||| nI b = nI (a ||| b) := by
  apply Int32.toBitVec_inj.mp
  rw [Int32.toBitVec_or]
  apply BitVec.eq_of_getLsbD_eq
  intro i hi
  rw [BitVec.getLsbD_or, nI_bit hi, nI_bit hi, nI_bit hi, Nat.testBit_or]
/-- an opening below the plane -/
def opA (m : Nat → Int32) (A b c : Int) (k : Nat) : Prop := m (432 + k * 6) ≠ 0 ∧ 64 * mv m (435 + k * 6) < plY A b c (mNa m (433 + k * 6)) (mNa m (434 + k * 6))
/-- which space it opens -/
def opB (m : Nat → Int32) (o k i : Nat) : Prop := (i = mNa m (437 + k * 6) ∧ (m (436 + k * 6) = -1 ∨ o.testBit (mNa m (436 + k * 6)) = true)) ∨ (m (436 + k * 6) ≠ -1 ∧ i = mNa m (436 + k * 6) ∧ o.testBit (mNa m (437 + k * 6)) = true)
def flB (m : Nat → Int32) (o : Nat) (A b c : Int) (n i : Nat) : Prop := ∃ k, k < n ∧ opA m A b c k ∧ opB m o k i
theorem flB_s {A b c : Int} {n i : Nat} : flB m o A b c (n + 1) i ↔ flB m o A b c n i ∨ (opA m A b c n ∧ opB m o n i) := by
  constructor
  · rintro ⟨k, k1, k2, k3⟩
    by_cases z : k = n
    · subst z; exact Or.inr ⟨k2, k3⟩
    · exact Or.inl ⟨k, by omega, k2, k3⟩
  · rintro (⟨k, k1, k2, k3⟩ | ⟨k2, k3⟩)
    · exact ⟨k, by omega, k2, k3⟩
    · exact ⟨n, by omega, k2, k3⟩
/-- the plane over a column, first one -/
theorem plane_c {A b c : Int} (h5 : L 61 5 = lI A) (h6 : L 61 6 = lI b) (h7 : L 61 7 = lI c) (ha : -200001 ≤ A ∧ A ≤ 200001) (hb : -2048 ≤ b ∧ b ≤ 2048) (hc : -2048 ≤ c ∧ c ≤ 2048) {s k : Nat} (hs : s < 16) (hk : k < 16) : jv d 100 0 [some (.ref 60), some (.int (nI s)), some (.int (nI k))] [] (shC, I, L, pX pa pb pu pw) = some (some (.int (vI (plY A b c s k))), (shC, I, L, pX pa pb pu pw)) := by
  have pb' := plY_b (s := s) (k := k) ha hb hc hs hk
  rw [B100_0, if_pos (by decide), if_pos (by decide), if_pos (by decide), show (5 : Int32).toNatClampNeg = 5 from rfl, show (6 : Int32).toNatClampNeg = 6 from rfl, show (7 : Int32).toNatClampNeg = 7 from rfl, h5, h6, h7, d64 hs, d64 hk, lI_mul, lI_mul, lI_add, lI_add]
  have e0 : (lI (A + b * (2 * ↑s - 15) + c * (2 * ↑k - 15))).toInt = plY A b c s k := by
    show (lI (plY A b c s k)).toInt = _
    rw [lI_toInt (by omega) (by omega)]
  rw [x32' (by rw [e0]; omega) (by rw [e0]; omega), e0]
/-- the openings of the first one -/
theorem flood_c (h : mQ m I J) (ho : I 60 4 = nI o) {A b c : Int} (h5 : L 61 5 = lI A) (h6 : L 61 6 = lI b) (h7 : L 61 7 = lI c) (ha : -200001 ≤ A ∧ A ≤ 200001) (hb : -2048 ≤ b ∧ b ≤ 2048) (hc : -2048 ≤ c ∧ c ≤ 2048) : ∃ v : Int32, (∀ i, i < 32 → (v.toBitVec.getLsbD i = true ↔ flB m o A b c 8 i ∧ o.testBit i = false)) ∧ jv (d + 1) 110 0 [some (.ref 60), none, none, none, none, none] [] (shC, I, L, pX pa pb pu pw) = some (some (.int v), (shC, I, L, pX pa pb pu pw)) := by
  have loop : ∀ (r k : Nat) (x : Int32) (o3 o4 o5 : Option Value), k + r = 8 → (∀ i, i < 32 → (x.toBitVec.getLsbD i = true ↔ flB m o A b c k i)) → ∃ v : Int32, (∀ i, i < 32 → (v.toBitVec.getLsbD i = true ↔ flB m o A b c 8 i ∧ o.testBit i = false)) ∧ jv (d + 1) 110 4 [some (.ref 60), some (.int x), some (.int (nI k)), o3, o4, o5] [] (shC, I, L, pX pa pb pu pw) = some (some (.int v), (shC, I, L, pX pa pb pu pw)) := by
    intro r
    induction r with
    | zero =>
      intro k x o3 o4 o5 hk hx
      have : k = 8 := by omega
      subst this
      refine ⟨x &&& (nI o ^^^ (-1)), fun i hi => ?_, ?_⟩
      · rw [Int32.toBitVec_and, BitVec.getLsbD_and, Int32.toBitVec_xor, BitVec.getLsbD_xor, neg1_bit i hi, nI_bit hi, Bool.and_eq_true, hx i hi]
        simp
      · rw [B110_4, if_pos (by decide), show z_0.getD (5 : Int32).toNatClampNeg 0 = nI 8 from rfl, if_neg (nI_nlt (by omega) (by omega)), ho]
    | succ r ih =>
      intro k x o3 o4 o5 hk hx
      have hk8 : k < 8 := by omega
      obtain ⟨hx4, ⟨y, y1, y2⟩, ⟨s, s1, s2⟩, ⟨q, q1, q2⟩, ⟨z, z1, z2⟩⟩ := h.open_ hk8
      have pb' := plY_b (s := s) (k := q) ha hb hc (by omega) (by omega)
      have eA : opA m A b c k ↔ m (432 + k * 6) ≠ 0 ∧ 64 * (z : Int) < plY A b c s q := by
        unfold opA; rw [mv_n z2 (by omega), mN_n s2 (by omega), mN_n q2 (by omega)]
      -- an opening that opens nothing
      have skip : ¬ opA m A b c k → ∀ i, i < 32 → (x.toBitVec.getLsbD i = true ↔ flB m o A b c (k + 1) i) := by
        intro na i hi
        rw [hx i hi, flB_s]
        constructor
        · exact Or.inl
        · rintro (w | ⟨w, -⟩)
          · exact w
          · exact absurd w na
      rw [B110_4, if_pos (by decide), show z_0.getD (5 : Int32).toNatClampNeg 0 = nI 8 from rfl, if_pos (nI_lt (by omega) (by omega)), g_of1_5_1 hk8, h.1 _ (by omega), s2]
      dsimp only [Option.toList_some, List.cons_append, List.nil_append]
      rw [B110_24, g_of1_5_2 hk8, h.1 _ (by omega), q2]
      dsimp only [Option.toList_some, List.cons_append, List.nil_append]
      rw [B110_34, jgo_some (d := d) rfl (plane_c h5 h6 h7 ha hb hc (show s < 16 by omega) (show q < 16 by omega))]
      dsimp only [Option.toList_some, List.cons_append, List.nil_append]
      rw [B110_37, g_of1_5_0 hk8, h.1 _ (by omega)]
      dsimp only [Option.toList_some, List.cons_append, List.nil_append]
      rw [B110_48]
      by_cases w0 : m (432 + k * 6) = 0
      · rw [if_pos w0, B110_141, nI_1]
        exact ih (k + 1) x _ _ _ (by omega) (skip (fun y => (eA.mp y).1 w0))
      rw [if_neg w0, g_of1_5_3 hk8, h.1 _ (by omega), z2]
      dsimp only [Option.toList_some, List.cons_append, List.nil_append]
      rw [B110_63, show (64 : Int32) * nI z = vI (64 * (z : Int)) by rw [nI_vI, show (64 : Int32) = vI 64 from rfl, vI_mul]]
      by_cases w1 : 64 * (z : Int) < plY A b c s q
      case neg =>
        rw [if_neg (fun y => w1 ((vI_lt (by omega) (by omega) (by omega) (by omega)).mp y)), B110_141, nI_1]
        exact ih (k + 1) x _ _ _ (by omega) (skip (fun y => w1 (eA.mp y).2))
      have act : opA m A b c k := eA.mpr ⟨w0, w1⟩
      rw [if_pos ((vI_lt (by omega) (by omega) (by omega) (by omega)).mpr w1), g_of1_5_4 hk8, h.1 _ (by omega)]
      dsimp only [Option.toList_some, List.cons_append, List.nil_append]
      rw [B110_81, g_of1_5_5 hk8, h.1 _ (by omega), y2]
      dsimp only [Option.toList_some, List.cons_append, List.nil_append]
      rw [B110_94]
      have ey : mNa m (437 + k * 6) = y := mN_n y2 (by omega)
      rcases hx4 with x4 | ⟨xx, x1, x2⟩
      · -- from the sea
        rw [x4, if_pos (by decide), B110_114, B110_119, if_pos (by decide), B110_141, nI_1]
        refine ih (k + 1) _ _ _ _ (by omega) (fun i hi => ?_)
        rw [or_bit x (by omega) hi, hx i hi, flB_s]
        unfold opB
        rw [ey, x4]
        constructor
        · rintro (w | w)
          · exact Or.inl w
          · exact Or.inr ⟨act, Or.inl ⟨w, Or.inl rfl⟩⟩
        · rintro (w | ⟨-, (⟨w, -⟩ | ⟨w, -⟩)⟩)
          · exact Or.inl w
          · exact Or.inr w
          · exact absurd rfl w
      · have ex : mNa m (436 + k * 6) = xx := mN_n x2 (by omega)
        have ne : ¬ nI xx = -1 := fun yy => by
          have := congrArg Int32.toInt yy
          rw [nI_vI, vI_i (by omega) (by omega)] at this
          have e1 : (-1 : Int32).toInt = -1 := by decide
          omega
        have eB : ∀ i, opB m o k i ↔ (i = y ∧ o.testBit xx = true) ∨ (i = xx ∧ o.testBit y = true) := by
          intro i
          unfold opB
          rw [ey, ex, x2]
          constructor
          · rintro (⟨u1, (u2 | u2)⟩ | ⟨-, u2, u3⟩)
            · exact absurd u2 ne
            · exact Or.inl ⟨u1, u2⟩
            · exact Or.inr ⟨u2, u3⟩
          · rintro (⟨u1, u2⟩ | ⟨u2, u3⟩)
            · exact Or.inl ⟨u1, Or.inr u2⟩
            · exact Or.inr ⟨ne, u2, u3⟩
        rw [x2, if_neg (nI_pos (by omega)), ho]
        -- the second half
        have half : ∀ x' : Int32, (∀ i, i < 32 → (x'.toBitVec.getLsbD i = true ↔ flB m o A b c k i ∨ (i = y ∧ o.testBit xx = true))) → ∃ v : Int32, (∀ i, i < 32 → (v.toBitVec.getLsbD i = true ↔ flB m o A b c 8 i ∧ o.testBit i = false)) ∧ jv (d + 1) 110 119 [some (.ref 60), some (.int x'), some (.int (nI k)), some (.int (vI (plY A b c s q))), some (.int (nI xx)), some (.int ((1 : Int32) <<< (nI y &&& 31)))] [] (shC, I, L, pX pa pb pu pw) = some (some (.int v), (shC, I, L, pX pa pb pu pw)) := by
          intro x' hx'
          rw [B110_119, if_neg (nI_pos (by omega)), ho]
          by_cases u : o.testBit y = true
          · rw [if_neg (fun w => by rw [(and_bit (by omega)).mp w] at u; cases u), B110_141, nI_1]
            refine ih (k + 1) _ _ _ _ (by omega) (fun i hi => ?_)
            rw [or_bit x' (by omega) hi, hx' i hi, flB_s, eB]
            constructor
            · rintro ((w | w) | w)
              · exact Or.inl w
              · exact Or.inr ⟨act, Or.inl w⟩
              · exact Or.inr ⟨act, Or.inr ⟨w, u⟩⟩
            · rintro (w | ⟨-, (w | ⟨w, -⟩)⟩)
              · exact Or.inl (Or.inl w)
              · exact Or.inl (Or.inr w)
              · exact Or.inr w
          · rw [if_pos ((and_bit (by omega)).mpr (by simpa using u)), B110_141, nI_1]
            refine ih (k + 1) _ _ _ _ (by omega) (fun i hi => ?_)
            rw [hx' i hi, flB_s, eB]
            constructor
            · rintro (w | w)
              · exact Or.inl w
              · exact Or.inr ⟨act, Or.inl w⟩
            · rintro (w | ⟨-, (w | ⟨-, w⟩)⟩)
              · exact Or.inl w
              · exact Or.inr w
              · exact absurd w u
        by_cases u : o.testBit xx = true
        · rw [if_neg (fun w => by rw [(bit_0 (by omega)).mp w] at u; cases u), B110_114]
          refine half _ (fun i hi => ?_)
          rw [or_bit x (by omega) hi, hx i hi]
          simp [u]
        · rw [if_pos ((bit_0 (by omega)).mpr (by simpa using u))]
          refine half _ (fun i hi => ?_)
          rw [hx i hi]
          simp [u]
  rw [B110_0]
  exact loop 8 0 0 none none none (by omega) (fun i hi => by
    constructor
    · intro w
      have : (0 : Int32).toBitVec.getLsbD i = false := (i_eq0 0).mp rfl i hi
      rw [this] at w; cases w
    · rintro ⟨k, k1, -⟩; omega)
end SEBI
