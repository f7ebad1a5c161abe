/-! BITS of ints -/
theorem i_and1 (y : Int32) : (y &&& 1 = 0) ↔ y.toBitVec.getLsbD 0 = false := by
  constructor
  · intro h
    have h2 := congrArg (fun z : Int32 => z.toBitVec.getLsbD 0) h
    simpa using h2
  · intro h
    apply Int32.toBitVec_inj.mp
    apply BitVec.eq_of_getLsbD_eq
    intro i hi
    rw [Int32.toBitVec_and]
    by_cases h0 : i = 0
    · subst h0
      rw [BitVec.getLsbD_and, h, Bool.false_and]
      rfl
    · have : (1 : Int32).toBitVec.getLsbD i = false := by
        show (1#32).getLsbD i = false
        simp [h0]
      rw [BitVec.getLsbD_and, this, Bool.and_false]
      simp
theorem sh_31 : ∀ u, u < 32 → ((nI u &&& 31).toBitVec.smod 32).toNat = u := by decide +kernel
theorem i_shr (x : Int32) {u : Nat} (hu : u < 32) : ((x >>> (nI u &&& 31)) &&& 1 = 0) ↔ x.toBitVec.getLsbD u = false := by
  rw [i_and1, Int32.toBitVec_shiftRight, BitVec.sshiftRight_eq', sh_31 u hu, BitVec.getLsbD_sshiftRight]
  simp [hu]
