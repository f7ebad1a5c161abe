/-! BITS counted: of a number, and bit by bit -/
theorem nI_bv (a : Nat) : (nI a).toBitVec = BitVec.ofNat 32 a := rfl
theorem nI_and (a b : Nat) (ha : a < 2 ^ 31) (hb : b < 2 ^ 32) : nI a &&& nI b = nI (a &&& b) := by
  apply Int32.toBitVec_inj.mp
  rw [Int32.toBitVec_and, nI_bv, nI_bv, nI_bv]
  apply BitVec.eq_of_toNat_eq
  have h1 : a &&& b ≤ a := Nat.and_le_left
  rw [BitVec.toNat_and, BitVec.toNat_ofNat, BitVec.toNat_ofNat, BitVec.toNat_ofNat, Nat.mod_eq_of_lt (show a < 2 ^ 32 by omega), Nat.mod_eq_of_lt hb, Nat.mod_eq_of_lt (show a &&& b < 2 ^ 32 by omega)]
theorem sx_k : ∀ k, k < 32 → (((nI k).toUInt32 &&& Int32.toUInt32 31).toBitVec % 32).toNat = k := by decide +kernel
theorem bcS_nI (a k : Nat) (ha : a < 2 ^ 31) (hk : k < 32) : bcS (nI a) (nI k) = nI (a / 2 ^ k) := by
  apply Int32.toBitVec_inj.mp
  unfold bcS
  show ((nI a).toUInt32 >>> ((nI k).toUInt32 &&& Int32.toUInt32 31)).toBitVec = _
  rw [UInt32.toBitVec_shiftRight, BitVec.ushiftRight_eq', sx_k k hk]
  show (BitVec.ofNat 32 a) >>> k = BitVec.ofNat 32 (a / 2 ^ k)
  apply BitVec.eq_of_toNat_eq
  have h1 : a / 2 ^ k ≤ a := Nat.div_le_self _ _
  rw [BitVec.toNat_ushiftRight, BitVec.toNat_ofNat, BitVec.toNat_ofNat, Nat.mod_eq_of_lt (show a < 2 ^ 32 by omega), Nat.mod_eq_of_lt (show a / 2 ^ k < 2 ^ 32 by omega), Nat.shiftRight_eq_div_pow]
theorem bcI_nI {n : Nat} (hn : n < 2 ^ 24) : bcI (nI n) = nI (bcN n) := by
  have l1 : (n / 2) &&& 1431655765 ≤ n / 2 := Nat.and_le_left
  unfold bcI bcN
  dsimp only
  rw [show bcS (nI n) 1 = nI (n / 2) from bcS_nI n 1 (by omega) (by decide), show nI (n / 2) &&& 1431655765 = nI ((n / 2) &&& 1431655765) from nI_and _ _ (by omega) (by decide), nI_sub (by omega)]
  generalize ha : n - ((n / 2) &&& 1431655765) = a
  have la : a < 2 ^ 24 := by omega
  have l2 : a &&& 858993459 ≤ a := Nat.and_le_left
  have l3 : (a / 4) &&& 858993459 ≤ a / 4 := Nat.and_le_left
  rw [show bcS (nI a) 2 = nI (a / 4) from bcS_nI a 2 (by omega) (by decide), show nI a &&& 858993459 = nI (a &&& 858993459) from nI_and _ _ (by omega) (by decide), show nI (a / 4) &&& 858993459 = nI ((a / 4) &&& 858993459) from nI_and _ _ (by omega) (by decide), nI_add]
  generalize hb : (a &&& 858993459) + ((a / 4) &&& 858993459) = b
  have lb : b < 2 ^ 25 := by omega
  have l4 : (b + b / 16) &&& 252645135 ≤ b + b / 16 := Nat.and_le_left
  rw [show bcS (nI b) 4 = nI (b / 16) from bcS_nI b 4 (by omega) (by decide), nI_add, show nI (b + b / 16) &&& 252645135 = nI ((b + b / 16) &&& 252645135) from nI_and _ _ (by omega) (by decide)]
  generalize hc : (b + b / 16) &&& 252645135 = c
  have lc : c < 2 ^ 26 := by omega
  rw [show bcS (nI c) 8 = nI (c / 256) from bcS_nI c 8 (by omega) (by decide), nI_add]
  generalize he : c + c / 256 = e
  have le : e < 2 ^ 27 := by omega
  rw [show bcS (nI e) 16 = nI (e / 65536) from bcS_nI e 16 (by omega) (by decide), nI_add]
  exact nI_and _ 63 (by omega) (by decide)
/-- the bits of a row, one by one -/
def popN (n : Nat) : Nat := smN (fun u => n / 2 ^ u % 2) 24
theorem smN_app (f : Nat → Nat) (a b : Nat) : smN f (a + b) = smN f a + smN (fun i => f (a + i)) b := by
  induction b with
  | zero => rfl
  | succ b ih => show smN f (a + b) + f (a + b) = smN f a + (smN (fun i => f (a + i)) b + f (a + b)); rw [ih]; omega
theorem pop_split {n0 n1 n2 : Nat} (h0 : n0 < 256) (h1 : n1 < 256) : popN (n0 + 256 * n1 + 65536 * n2) = pop8 n0 + pop8 n1 + pop8 n2 := by
  unfold popN
  rw [show 24 = 8 + (8 + 8) from rfl, smN_app, smN_app, ← Nat.add_assoc]
  congr 1
  · congr 1
    · exact smN_ext (fun u hu => by
        show (n0 + 256 * n1 + 65536 * n2) / 2 ^ u % 2 = n0 / 2 ^ u % 2
        rcases (show u = 0 ∨ u = 1 ∨ u = 2 ∨ u = 3 ∨ u = 4 ∨ u = 5 ∨ u = 6 ∨ u = 7 by omega) with rfl | rfl | rfl | rfl | rfl | rfl | rfl | rfl <;> omega)
    · exact smN_ext (fun u hu => by
        show (n0 + 256 * n1 + 65536 * n2) / 2 ^ (8 + u) % 2 = n1 / 2 ^ u % 2
        rcases (show u = 0 ∨ u = 1 ∨ u = 2 ∨ u = 3 ∨ u = 4 ∨ u = 5 ∨ u = 6 ∨ u = 7 by omega) with rfl | rfl | rfl | rfl | rfl | rfl | rfl | rfl <;> omega)
  · exact smN_ext (fun u hu => by
      show (n0 + 256 * n1 + 65536 * n2) / 2 ^ (8 + (8 + u)) % 2 = n2 / 2 ^ u % 2
      rcases (show u = 0 ∨ u = 1 ∨ u = 2 ∨ u = 3 ∨ u = 4 ∨ u = 5 ∨ u = 6 ∨ u = 7 by omega) with rfl | rfl | rfl | rfl | rfl | rfl | rfl | rfl <;> omega)
theorem bc_pop {n : Nat} (hn : n < 2 ^ 24) : bcI (nI n) = nI (popN n) := by
  have e : n = n % 256 + 256 * (n / 256 % 256) + 65536 * (n / 65536) := by omega
  rw [bcI_nI hn, e, bcN_eq (by omega) (by omega) (by omega), pop_split (by omega) (by omega)]
/-- a bit of a number -/
theorem ibit_nI {n u : Nat} (hn : n < 2 ^ 31) (hu : u < 32) : ibit u (nI n) ↔ n / 2 ^ u % 2 = 1 := by
  unfold ibit
  rw [nI_bv, BitVec.getLsbD_ofNat, Nat.testBit_eq_decide_div_mod_eq]
  simp [hu]
theorem bit_nI {n u : Nat} (hn : n < 2 ^ 31) (hu : u < 32) : ((nI n >>> (nI u &&& 31)) &&& 1) = nI (n / 2 ^ u % 2) := by
  by_cases h : ibit u (nI n)
  · rw [(ibit_1 hu).mpr h, (ibit_nI hn hu).mp h]
    rfl
  · have h1 : ¬ n / 2 ^ u % 2 = 1 := fun z => h ((ibit_nI hn hu).mpr z)
    have h2 : n / 2 ^ u % 2 = 0 := by
      generalize n / 2 ^ u = m at h1
      omega
    rw [(ibit_no hu).mpr h, h2]
    rfl
