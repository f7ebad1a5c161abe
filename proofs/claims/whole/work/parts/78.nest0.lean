/-! PLATES: bits of longs -/
def lbit (u : Nat) (x : Int64) : Prop := x.toBitVec.getLsbD u = true
theorem sl_63 : ∀ u, u < 64 → (((nI u).toInt64 &&& 63).toBitVec.smod 64).toNat = u := by decide +kernel
theorem su_63 : ∀ u, u < 64 → (((nI u).toInt64.toUInt64 &&& Int64.toUInt64 63).toBitVec % 64).toNat = u := by decide +kernel
theorem lbit_0 (u : Nat) : ¬ lbit u 0 := by
  unfold lbit
  show ¬ (0#64).getLsbD u = true
  simp
theorem lbit_or {x y : Int64} {u : Nat} : lbit u (x ||| y) ↔ lbit u x ∨ lbit u y := by
  unfold lbit
  rw [Int64.toBitVec_or, BitVec.getLsbD_or]
  simp
theorem lbit_and {x y : Int64} {u : Nat} : lbit u (x &&& y) ↔ lbit u x ∧ lbit u y := by
  unfold lbit
  rw [Int64.toBitVec_and, BitVec.getLsbD_and]
  simp
theorem lbit_lt {x : Int64} {u : Nat} (h : lbit u x) : u < 64 := by
  apply Classical.byContradiction
  intro q
  unfold lbit at h
  rw [BitVec.getLsbD_of_ge _ _ (by omega)] at h
  cases h
theorem lbit_shl {x : Int64} {k u : Nat} (hk : k < 64) : lbit u (x <<< ((nI k).toInt64 &&& 63)) ↔ u < 64 ∧ k ≤ u ∧ lbit (u - k) x := by
  unfold lbit
  rw [Int64.toBitVec_shiftLeft, BitVec.shiftLeft_eq', sl_63 k hk, BitVec.getLsbD_shiftLeft]
  simp [and_assoc]
theorem lbit_shr {x : Int64} {k u : Nat} (hk : k < 64) : lbit u ((x.toUInt64 >>> ((nI k).toInt64.toUInt64 &&& Int64.toUInt64 63)).toInt64) ↔ lbit (k + u) x := by
  unfold lbit
  show ((x.toUInt64 >>> ((nI k).toInt64.toUInt64 &&& Int64.toUInt64 63)).toBitVec).getLsbD u = true ↔ _
  rw [UInt64.toBitVec_shiftRight, BitVec.ushiftRight_eq', su_63 k hk, BitVec.getLsbD_ushiftRight]
  exact Iff.rfl
theorem lbit_ext {x y : Int64} (h : ∀ u, u < 64 → (lbit u x ↔ lbit u y)) : x = y := by
  apply Int64.toBitVec_inj.mp
  apply BitVec.eq_of_getLsbD_eq
  intro i hi
  have := h i hi
  unfold lbit at this
  exact Bool.eq_iff_iff.mpr this
theorem lbit_none {x : Int64} : x = 0 ↔ ∀ u, ¬ lbit u x := by
  constructor
  · intro h u
    rw [h]
    exact lbit_0 u
  · intro h
    exact lbit_ext (fun u _ => ⟨fun q => absurd q (h u), fun q => absurd q (lbit_0 u)⟩)
theorem lbit_one (k u : Nat) (hk : k < 64) : lbit u ((1 : Int64) <<< ((nI k).toInt64 &&& 63)) ↔ u = k := by
  rw [lbit_shl hk]
  have h1 : ∀ v, lbit v 1 ↔ v = 0 := fun v => by
    unfold lbit
    show (1#64).getLsbD v = true ↔ _
    simp
  rw [h1]
  omega
theorem lcmp_0 (x : Int64) : (lg_cmp x 0 = 0) ↔ x = 0 := by
  unfold lg_cmp
  by_cases h1 : x > 0
  · rw [if_pos h1]
    constructor
    · intro q; exact absurd q (by decide)
    · intro q; rw [q] at h1; exact absurd h1 (by decide)
  · rw [if_neg h1]
    by_cases h2 : x = 0
    · simp [h2]
    · simp [h2]
