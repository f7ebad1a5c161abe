/-! SEA: sea(), both -/
section SEBQ
variable {d e : Nat} {I J : Nat → Nat → Int32} {L L' : Nat → Nat → Int64} {pa pb pu pw : Option Nat} {m : Nat → Int32} {o : Nat}
/-- the ship at rest, in both -/
def restP (m : Nat → Int32) (o : Nat) (b c : Int) (I J : Nat → Nat → Int32) (L L' : Nat → Nat → Int64) : Prop := (-2048 ≤ c ∧ c ≤ 2048) ∧ (-2048 ≤ b ∧ b ≤ 2048) ∧ (-200001 ≤ seaL m o (WT m o) b c ∧ seaL m o (WT m o) b c ≤ 200001) ∧ tdP m o b c L ∧ (∀ p, p < 16 → hasL m o p → I 67 p = vI (liqL m p b c)) ∧ (J 0 66 = vI (seaL m o (WT m o) b c) ∧ J 0 67 = vI b ∧ J 0 68 = vI c) ∧ (L' 0 65 = lI (VA m o 0 b c) ∧ L' 38 0 = lI (XA m o 1 b c) ∧ L' 38 1 = lI (XA m o 2 b c) ∧ L' 38 2 = lI (XA m o 3 b c)) ∧ (∀ s, s < 16 → L 68 s = lI (lD m o (seaL m o (WT m o) b c) b c s) ∧ L' 39 s = lI (lD m o (seaL m o (WT m o) b c) b c s)) ∧ (∀ i, i < 256 → J 42 i = vI (wtr m (seaL m o (WT m o) b c) b c i)) ∧ (∀ p, p < 16 → hasL m o p → J 43 p = vI (liqL m p b c)) ∧ ∀ k, k ≤ 16 → L' 40 k = lI (fOr m o (seaL m o (WT m o) b c) b c k) ∧ L' 41 k = lI (bEn m o (seaL m o (WT m o) b c) b c k)
/-- the latest sea, in both -/
def seaS (m : Nat → Int32) (I J : Nat → Nat → Int32) (L L' : Nat → Nat → Int64) : Prop := ∃ o r ans, o < 65536 ∧ r ≤ 16 ∧ seaC m o I J L ∧ memK m o I L ∧ rfS m o I J L' ∧ (L 61 0 = ans.toInt64 ∧ L 61 1 = (nI r).toInt64 ∧ L 61 2 = (nI o).toInt64 ∧ L 61 3 = lI (WT m o) ∧ L 61 4 = lI (VW m o 0 200000 0 0)) ∧ (J 0 60 = ans ∧ J 0 61 = nI r ∧ L' 0 64 = lI (VW m o 0 200000 0 0)) ∧ (ans = 1 ∨ ans = 2 ∨ (ans = 0 ∧ ∃ c b, restP m o b c I J L L'))
/-- what both keep of the sea between calls -/
def seaT (m : Nat → Int32) (N : Nat) (I J : Nat → Nat → Int32) (L L' : Nat → Nat → Int64) : Prop := nearK I ∧ turK N I ∧ (I 75 0 = 0 ∧ I 77 0 = 0 ∧ I 79 0 = 0) ∧ (L' 40 0 = 0 ∧ L' 41 0 = 0) ∧ ((I 60 2 = 0 ∧ J 0 59 = 0) ∨ (I 60 2 = 1 ∧ J 0 59 = 1 ∧ seaS m I J L L'))
theorem kinds_c (h : mQ m I J) : ∃ v : Int32, (∀ i, i < 32 → (v.toBitVec.getLsbD i = true ↔ i < 16 ∧ m (152 + i * 8) ≠ 0)) ∧ jv (d + 2) 55 0 [some (.ref 1), none, none] [] (shC, I, L, pX pa pb pu pw) = some (some (.int v), (shC, I, L, pX pa pb pu pw)) := by
  have loop : ∀ (r p : Nat) (x : Int32), p + r = 16 → (∀ i, i < 32 → (x.toBitVec.getLsbD i = true ↔ i < p ∧ m (152 + i * 8) ≠ 0)) → ∃ v : Int32, (∀ i, i < 32 → (v.toBitVec.getLsbD i = true ↔ i < 16 ∧ m (152 + i * 8) ≠ 0)) ∧ jv (d + 2) 55 4 [some (.ref 1), some (.int x), some (.int (nI p))] [] (shC, I, L, pX pa pb pu pw) = some (some (.int v), (shC, I, L, pX pa pb pu pw)) := by
    intro r
    induction r with
    | zero =>
      intro p x hp hx
      have : p = 16 := by omega
      subst this
      exact ⟨x, hx, by rw [B55_4_o1, if_pos (by decide), show z_0.getD (2 : Int32).toNatClampNeg 0 = nI 16 from rfl, if_neg (by decide)]⟩
    | succ r ih =>
      intro p x hp hx
      have hp16 : p < 16 := by omega
      obtain ⟨f0, f1, f2, f3, f4, f5, f6, a0, a1, a2, a3, a4, a5, a6, m0, m1, m2, m3, m4, m5, m6⟩ := h.space hp16
      have kd : jv (d + 1) 54 0 [some (.ref 1), some (.int (nI p))] [] (shC, I, L, pX pa pb pu pw) = some (some (.int (nI f0)), (shC, I, L, pX pa pb pu pw)) := by
        rw [B54_0_o1, if_neg (nI_pos (by omega)), if_pos (by decide), show z_0.getD (2 : Int32).toNatClampNeg 0 = nI 16 from rfl, if_pos (nI_lt (by omega) (by omega)), g_of1Q_2_0 hp16, h.1 _ (by omega), m0]
        dsimp only [Option.toList_some, List.cons_append, List.nil_append]
        rw [B54_20_o1, B54_24_o1]
      rw [B55_4_o1, if_pos (by decide), show z_0.getD (2 : Int32).toNatClampNeg 0 = nI 16 from rfl, if_pos (nI_lt (by omega) (by omega)), jgo_some (d := d + 1) rfl kd]
      dsimp only [Option.toList_some, List.cons_append, List.nil_append]
      rw [B55_19_o1]
      by_cases z : 0 < f0
      · have nz : m (152 + p * 8) ≠ 0 := fun y => by
          rw [m0] at y
          have := (nI_eq (b := 0) (by omega) (by decide)).mp y
          omega
        rw [if_pos (show (0 : Int32) < nI f0 from nI_lt (a := 0) z (by omega)), B55_29_o1, nI_1]
        refine ih (p + 1) _ (by omega) (fun i hi => ?_)
        rw [or_bit x (by omega) hi, hx i hi]
        constructor
        · rintro (⟨u1, u2⟩ | u)
          · exact ⟨by omega, u2⟩
          · subst u; exact ⟨by omega, nz⟩
        · rintro ⟨u1, u2⟩
          by_cases w : i = p
          · exact Or.inr w
          · exact Or.inl ⟨by omega, u2⟩
      · have nz : m (152 + p * 8) = 0 := by rw [m0, show f0 = 0 by omega]; rfl
        rw [if_neg (show ¬ (0 : Int32) < nI f0 from nI_nlt (a := 0) (by omega) (by decide)), B55_29_o1, nI_1, show x ||| 0 = x from Int32.or_zero]
        refine ih (p + 1) _ (by omega) (fun i hi => ?_)
        rw [hx i hi]
        constructor
        · rintro ⟨u1, u2⟩; exact ⟨by omega, u2⟩
        · rintro ⟨u1, u2⟩
          refine ⟨?_, u2⟩
          by_cases w : i = p
          · subst w; exact absurd nz u2
          · omega
  rw [B55_0_o1]
  exact loop 16 0 0 (by omega) (fun i hi => by
    constructor
    · intro w
      have : (0 : Int32).toBitVec.getLsbD i = false := (i_eq0 0).mp rfl i hi
      rw [this] at w; cases w
    · rintro ⟨u, -⟩; omega)
/-- whether the spaces asked for are spaces -/
theorem kinds_ok {v : Int32} (hv : ∀ i, i < 32 → (v.toBitVec.getLsbD i = true ↔ i < 16 ∧ m (152 + i * 8) ≠ 0)) (o16 : o < 65536) : nI o &&& (v ^^^ (-1)) = 0 ↔ opKd m o := by
  rw [i_eq0]
  have key : ∀ i, i < 32 → ((nI o &&& (v ^^^ (-1))).toBitVec.getLsbD i = false ↔ (o.testBit i = true → v.toBitVec.getLsbD i = true)) := by
    intro i hi
    rw [Int32.toBitVec_and, BitVec.getLsbD_and, Int32.toBitVec_xor, BitVec.getLsbD_xor, neg1_bit i hi, nI_bit hi]
    cases o.testBit i <;> cases v.toBitVec.getLsbD i <;> simp
  constructor
  · intro h p hp hb
    exact ((hv p (by omega)).mp ((key p (by omega)).mp (h p (by omega)) hb)).2
  · intro h i hi
    rw [key i hi]
    intro hb
    have i16 : i < 16 := by
      rcases Nat.lt_or_ge i 16 with z | z
      · exact z
      · have : o < 2 ^ i := Nat.lt_of_lt_of_le o16 (Nat.pow_le_pow_right (show 0 < 2 by decide) z)
        rw [Nat.testBit_lt_two_pow this] at hb; cases hb
    exact (hv i hi).mpr ⟨i16, h i i16 hb⟩
/-- the same in the second one -/
theorem kinds_r (h : mQ m I J) : ∀ (r p : Nat), p + r = 16 → (∃ q, p ≤ q ∧ q < 16 ∧ o.testBit q = true ∧ m (152 + q * 8) = 0 ∧ jv (e + 1) 319 15 [some (.ref 0), some (.int (nI o)), some (.int (nI p))] [] (shR, J, L, pR) = some (some (.int (-1)), (shR, J, L, pR))) ∨ ((∀ q, p ≤ q → q < 16 → o.testBit q = true → m (152 + q * 8) ≠ 0) ∧ jv (e + 1) 319 15 [some (.ref 0), some (.int (nI o)), some (.int (nI p))] [] (shR, J, L, pR) = jv (e + 1) 319 15 [some (.ref 0), some (.int (nI o)), some (.int (nI 16))] [] (shR, J, L, pR)) := by
  intro r
  induction r with
  | zero =>
    intro p hp
    have : p = 16 := by omega
    subst this
    exact Or.inr ⟨fun q q1 q2 => by omega, rfl⟩
  | succ r ih =>
    intro p hp
    have hp16 : p < 16 := by omega
    have go : (o.testBit p = true → m (152 + p * 8) ≠ 0) → jv (e + 1) 319 15 [some (.ref 0), some (.int (nI o)), some (.int (nI p))] [] (shR, J, L, pR) = jv (e + 1) 319 15 [some (.ref 0), some (.int (nI o)), some (.int (nI (p + 1)))] [] (shR, J, L, pR) → (∃ q, p ≤ q ∧ q < 16 ∧ o.testBit q = true ∧ m (152 + q * 8) = 0 ∧ jv (e + 1) 319 15 [some (.ref 0), some (.int (nI o)), some (.int (nI p))] [] (shR, J, L, pR) = some (some (.int (-1)), (shR, J, L, pR))) ∨ ((∀ q, p ≤ q → q < 16 → o.testBit q = true → m (152 + q * 8) ≠ 0) ∧ jv (e + 1) 319 15 [some (.ref 0), some (.int (nI o)), some (.int (nI p))] [] (shR, J, L, pR) = jv (e + 1) 319 15 [some (.ref 0), some (.int (nI o)), some (.int (nI 16))] [] (shR, J, L, pR)) := by
      intro hz hrun
      rw [hrun]
      rcases ih (p + 1) (by omega) with ⟨q, q1, q2, q3, q4, q5⟩ | ⟨q1, q2⟩
      · exact Or.inl ⟨q, by omega, q2, q3, q4, q5⟩
      · refine Or.inr ⟨fun q h1 h2 h3 => ?_, q2⟩
        by_cases w : q = p
        · subst w; exact hz h3
        · exact q1 q (by omega) h2 h3
    have lt : nI p < 16 := nI_lt (b := 16) (by omega) (by decide)
    by_cases u : o.testBit p = true
    · have st : jv (e + 1) 319 15 [some (.ref 0), some (.int (nI o)), some (.int (nI p))] [] (shR, J, L, pR) = if m (152 + p * 8) = 0 then some (some (.int (-1)), (shR, J, L, pR)) else jv (e + 1) 319 15 [some (.ref 0), some (.int (nI o)), some (.int (nI (p + 1)))] [] (shR, J, L, pR) := by
        rw [B319_15, if_pos lt, if_pos ((bit_1 (by omega)).mpr u), g_at_2_0 h.2.2.2]
        dsimp only [Option.toList_some, List.cons_append, List.nil_append]
        rw [B319_41, if_pos (j_in_nI (by omega) (by decide)), nI_clamp (by omega), h.2.1 _ (by omega), B319_47, nI_1]
      by_cases w : m (152 + p * 8) = 0
      · exact Or.inl ⟨p, Nat.le_refl _, hp16, u, w, by rw [st, if_pos w]⟩
      · exact go (fun _ => w) (by rw [st, if_neg w])
    · exact go (fun y => absurd y u) (by rw [B319_15, if_pos lt, if_neg (fun y => u ((bit_1 (by omega)).mp y)), B319_47, nI_1])
end SEBQ
