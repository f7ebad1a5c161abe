/-! SEA: the hull's columns in the first one -/
section SEAB
theorem vI_i {z : Int} (h1 : -2147483648 ≤ z) (h2 : z < 2147483648) : (vI z).toInt = z := by
  unfold vI
  rw [Int32.toInt_ofInt]
  have hs : Int32.size = 4294967296 := rfl
  exact Int.bmod_eq_of_le (by rw [hs]; omega) (by rw [hs]; omega)
theorem vI_add (a b : Int) : vI a + vI b = vI (a + b) := by unfold vI; rw [Int32.ofInt_add]
theorem vI_sub (a b : Int) : vI a - vI b = vI (a - b) := by unfold vI; rw [Int32.ofInt_sub]
theorem vI_mul (a b : Int) : vI a * vI b = vI (a * b) := by unfold vI; rw [Int32.ofInt_mul]
theorem nI_vI (n : Nat) : nI n = vI n := by
  unfold vI
  rw [Int32.ofInt_eq_ofNat] <;> rfl
theorem vI_lt {a b : Int} (a1 : -2147483648 ≤ a) (a2 : a < 2147483648) (b1 : -2147483648 ≤ b) (b2 : b < 2147483648) : vI a < vI b ↔ a < b := by
  rw [Int32.lt_iff_toInt_lt, vI_i a1 a2, vI_i b1 b2]
theorem vI_64 {z : Int} (h1 : -2147483648 ≤ z) (h2 : z < 2147483648) : (vI z).toInt64 = lI z := t64 (vI_i h1 h2)
/-- a plane's height over a column -/
def plY (a b c : Int) (s k : Nat) : Int := a + b * (2 * s - 15) + c * (2 * k - 15)
theorem plY_v (a b c : Int) (s k : Nat) : (vI a + vI b * (2 * nI s - 15)) + vI c * (2 * nI k - 15) = vI (plY a b c s k) := by
  rw [nI_vI, nI_vI, show (2 : Int32) = vI 2 from rfl, show (15 : Int32) = vI 15 from rfl, vI_mul, vI_mul, vI_sub, vI_sub, vI_mul, vI_mul, vI_add, vI_add]
  rfl
theorem plY_b {a b c : Int} {s k : Nat} (ha : -200001 ≤ a ∧ a ≤ 200001) (hb : -2048 ≤ b ∧ b ≤ 2048) (hc : -2048 ≤ c ∧ c ≤ 2048) (hs : s < 16) (hk : k < 16) : -300000 ≤ plY a b c s k ∧ plY a b c s k ≤ 300000 := by
  have m : ∀ (x : Int) (n : Nat), -2048 ≤ x → x ≤ 2048 → n < 16 → -30720 ≤ x * (2 * n - 15) ∧ x * (2 * n - 15) ≤ 30720 := by
    intro x n h1 h2 hn
    have : n = 0 ∨ n = 1 ∨ n = 2 ∨ n = 3 ∨ n = 4 ∨ n = 5 ∨ n = 6 ∨ n = 7 ∨ n = 8 ∨ n = 9 ∨ n = 10 ∨ n = 11 ∨ n = 12 ∨ n = 13 ∨ n = 14 ∨ n = 15 := by omega
    rcases this with z | z | z | z | z | z | z | z | z | z | z | z | z | z | z | z <;> subst z <;> omega
  have x1 := m b s hb.1 hb.2 hs
  have x2 := m c k hc.1 hc.2 hk
  unfold plY
  omega
/-- the hull's rows, as whole numbers -/
def hlD (I : Nat → Nat → Int32) (lo hi : Nat → Int) (sF sT cF cT : Nat → Nat) (fl rf bt : Nat → Int) : Prop := (∀ i, i < 256 → I 73 i = vI (lo i) ∧ 0 ≤ lo i ∧ lo i ≤ 128000 ∧ I 74 i = vI (hi i) ∧ 0 ≤ hi i ∧ hi i ≤ 128000) ∧ ∀ k, k < 17 → I 75 k = nI (sF k) ∧ I 76 k = nI (sT k) ∧ I 77 k = nI (cF k) ∧ I 78 k = nI (cT k) ∧ sF k ≤ 15 ∧ sT k ≤ 15 ∧ cF k ≤ 15 ∧ cT k ≤ 15 ∧ I 79 k = vI (fl k) ∧ 0 ≤ fl k ∧ fl k ≤ 128000 ∧ I 80 k = vI (rf k) ∧ 0 ≤ rf k ∧ rf k ≤ 200000 ∧ I 81 k = vI (bt k) ∧ -100 ≤ bt k ∧ bt k ≤ 100
def wL (lo fl : Int) : Int := if fl < lo then lo else fl
def wU (hi rf pl : Int) : Int := if pl < (if hi < rf then hi else rf) then pl else (if hi < rf then hi else rf)
def wP (l u : Int) : Int := if l < u then u - l else 0
def wM (l u : Int) : Int := if l < u then (u - l) * (l + u) else 0
/-- as sums over points -/
theorem wP_s (l u : Int) : wP l u = sR (fun _ => 1) l u := by
  unfold wP
  by_cases z : l < u
  · rw [if_pos z, sR_const (by omega), Int.one_mul]
  · rw [if_neg z, sR_nil (by omega)]
theorem wM_s (l u : Int) : wM l u = sR (fun y => 2 * y + 1) l u := by
  unfold wM
  by_cases z : l < u
  · rw [if_pos z, sR_mid (by omega)]
  · rw [if_neg z, sR_nil (by omega)]
/-- sums over rows from a on -/
def sZ (f : Nat → Int) (a : Nat) : Nat → Int
  | 0 => 0
  | n + 1 => sZ f a n + f (a + n)
variable {d : Nat} {I : Nat → Nat → Int32} {L : Nat → Nat → Int64} {pa pb pu pw : Option Nat} {lo hi : Nat → Int} {sF sT cF cT : Nat → Nat} {fl rf bt : Nat → Int}
/-- one column of a block -/
theorem wcol_1 (hD : hlD I lo hi sF sT cF cT fl rf bt) {a b c : Int} {s k q : Nat} (ha : -200001 ≤ a ∧ a ≤ 200001) (hb : -2048 ≤ b ∧ b ≤ 2048) (hc : -2048 ≤ c ∧ c ≤ 2048) (hs : s < 16) (hk : k ≤ cT q) (hq : q < 17) (l1 l2 l3 l8 : Int32) (x y z : Int) (o17 o18 o19 o20 o21 o22 : Option Value) : ∃ p17 p18 p19 p20 p21 p22, jv d 36 106 [some (.ref 72), some (.int l1), some (.int l2), some (.int l3), some (.int (vI a)), some (.int (vI b)), some (.int (vI c)), some (.int (nI q)), some (.int l8), some (.int (nI s)), some (.long (lI x)), none, some (.long (lI y)), none, some (.long (lI z)), none, some (.int (nI k)), o17, o18, o19, o20, o21, o22] [] (shC, I, L, pX pa pb pu pw) = jv d 36 106 [some (.ref 72), some (.int l1), some (.int l2), some (.int l3), some (.int (vI a)), some (.int (vI b)), some (.int (vI c)), some (.int (nI q)), some (.int l8), some (.int (nI s)), some (.long (lI (x + wP (wL (lo (16 * s + k)) (fl q)) (wU (hi (16 * s + k)) (rf q) (plY a b c s k))))), none, some (.long (lI (y + wP (wL (lo (16 * s + k)) (fl q)) (wU (hi (16 * s + k)) (rf q) (plY a b c s k)) * (2 * k - 15)))), none, some (.long (lI (z + wM (wL (lo (16 * s + k)) (fl q)) (wU (hi (16 * s + k)) (rf q) (plY a b c s k))))), none, some (.int (nI (k + 1))), p17, p18, p19, p20, p21, p22] [] (shC, I, L, pX pa pb pu pw) := by
  obtain ⟨_, _, d3, d4, _, _, _, d8, d9, d10, d11, d12, d13, d14, _, _, _⟩ := hD.2 q hq
  have k16 : k < 16 := by omega
  obtain ⟨e1, e2, e3, e4, e5, e6⟩ := hD.1 (16 * s + k) (by omega)
  have pb' := plY_b ha hb hc hs k16
  have jq : j_in (nI q) 17 = true := j_in_nI hq (by decide)
  have ji : j_in (nI (16 * s + k)) 256 = true := j_in_nI (by omega) (by decide)
  have ei : (16 : Int32) * nI s + nI k = nI (16 * s + k) := by rw [show (16 : Int32) = nI 16 from rfl, nI_mul, nI_add]
  have cq : (nI q).toNatClampNeg = q := nI_clamp (by omega)
  have ci : (nI (16 * s + k)).toNatClampNeg = 16 * s + k := nI_clamp (by omega)
  have n1 : nI k + 1 = nI (k + 1) := nI_add k 1
  have k64 : (2 * nI k - 15).toInt64 = lI (2 * k - 15) := by
    rw [nI_vI, show (2 : Int32) = vI 2 from rfl, show (15 : Int32) = vI 15 from rfl, vI_mul, vI_sub, vI_64 (by omega) (by omega)]
  rw [B36_106, if_pos jq, cq, d4, if_neg (nI_nlt (by omega) (by omega)), ei, if_pos ji, if_pos jq, ci, plY_v, d9, e1]
  generalize plY a b c s k = P at pb' ⊢
  have lw : ∀ o19, (if vI (fl q) < vI (lo (16 * s + k)) then (if j_in (nI (16 * s + k)) 256 = true then jv d 36 188 [some (.ref 72), some (.int l1), some (.int l2), some (.int l3), some (.int (vI a)), some (.int (vI b)), some (.int (vI c)), some (.int (nI q)), some (.int l8), some (.int (nI s)), some (.long (lI x)), none, some (.long (lI y)), none, some (.long (lI z)), none, some (.int (nI k)), some (.int (vI P)), some (.int (nI (16 * s + k))), o19, o20, o21, o22] [.int (vI (lo (16 * s + k)))] (shC, I, L, pX pa pb pu pw) else none) else (if j_in (nI q) 17 = true then jv d 36 188 [some (.ref 72), some (.int l1), some (.int l2), some (.int l3), some (.int (vI a)), some (.int (vI b)), some (.int (vI c)), some (.int (nI q)), some (.int l8), some (.int (nI s)), some (.long (lI x)), none, some (.long (lI y)), none, some (.long (lI z)), none, some (.int (nI k)), some (.int (vI P)), some (.int (nI (16 * s + k))), o19, o20, o21, o22] [.int (vI (fl q))] (shC, I, L, pX pa pb pu pw) else none)) = jv d 36 188 [some (.ref 72), some (.int l1), some (.int l2), some (.int l3), some (.int (vI a)), some (.int (vI b)), some (.int (vI c)), some (.int (nI q)), some (.int l8), some (.int (nI s)), some (.long (lI x)), none, some (.long (lI y)), none, some (.long (lI z)), none, some (.int (nI k)), some (.int (vI P)), some (.int (nI (16 * s + k))), o19, o20, o21, o22] [.int (vI (wL (lo (16 * s + k)) (fl q)))] (shC, I, L, pX pa pb pu pw) := by
    intro o19
    unfold wL
    by_cases g : fl q < lo (16 * s + k)
    · rw [if_pos ((vI_lt (by omega) (by omega) (by omega) (by omega)).mpr g), if_pos ji, if_pos g]
    · rw [if_neg (fun w => g ((vI_lt (by omega) (by omega) (by omega) (by omega)).mp w)), if_pos jq, if_neg g]
  rw [lw]
  have wb : 0 ≤ wL (lo (16 * s + k)) (fl q) ∧ wL (lo (16 * s + k)) (fl q) ≤ 128000 := by unfold wL; split <;> omega
  generalize wL (lo (16 * s + k)) (fl q) = l at wb ⊢
  rw [B36_188, if_pos ji, if_pos jq, ci, cq, e4, d12]
  have up : ∀ o20, (if vI (hi (16 * s + k)) < vI (rf q) then (if j_in (nI (16 * s + k)) 256 = true then jv d 36 224 [some (.ref 72), some (.int l1), some (.int l2), some (.int l3), some (.int (vI a)), some (.int (vI b)), some (.int (vI c)), some (.int (nI q)), some (.int l8), some (.int (nI s)), some (.long (lI x)), none, some (.long (lI y)), none, some (.long (lI z)), none, some (.int (nI k)), some (.int (vI P)), some (.int (nI (16 * s + k))), some (.int (vI l)), o20, o21, o22] [.int (vI (hi (16 * s + k)))] (shC, I, L, pX pa pb pu pw) else none) else (if j_in (nI q) 17 = true then jv d 36 224 [some (.ref 72), some (.int l1), some (.int l2), some (.int l3), some (.int (vI a)), some (.int (vI b)), some (.int (vI c)), some (.int (nI q)), some (.int l8), some (.int (nI s)), some (.long (lI x)), none, some (.long (lI y)), none, some (.long (lI z)), none, some (.int (nI k)), some (.int (vI P)), some (.int (nI (16 * s + k))), some (.int (vI l)), o20, o21, o22] [.int (vI (rf q))] (shC, I, L, pX pa pb pu pw) else none)) = jv d 36 224 [some (.ref 72), some (.int l1), some (.int l2), some (.int l3), some (.int (vI a)), some (.int (vI b)), some (.int (vI c)), some (.int (nI q)), some (.int l8), some (.int (nI s)), some (.long (lI x)), none, some (.long (lI y)), none, some (.long (lI z)), none, some (.int (nI k)), some (.int (vI P)), some (.int (nI (16 * s + k))), some (.int (vI l)), o20, o21, o22] [.int (vI (if hi (16 * s + k) < rf q then hi (16 * s + k) else rf q))] (shC, I, L, pX pa pb pu pw) := by
    intro o20
    by_cases g : hi (16 * s + k) < rf q
    · rw [if_pos ((vI_lt (by omega) (by omega) (by omega) (by omega)).mpr g), if_pos ji, if_pos g]
    · rw [if_neg (fun w => g ((vI_lt (by omega) (by omega) (by omega) (by omega)).mp w)), if_pos jq, if_neg g]
  rw [up]
  unfold wU
  have vb : 0 ≤ (if hi (16 * s + k) < rf q then hi (16 * s + k) else rf q) ∧ (if hi (16 * s + k) < rf q then hi (16 * s + k) else rf q) ≤ 200000 := by split <;> omega
  generalize (if hi (16 * s + k) < rf q then hi (16 * s + k) else rf q) = v at vb ⊢
  rw [B36_224]
  have fin : ∀ (u : Int) (o21 o22 : Option Value), -300000 ≤ u → u ≤ 300000 → ∃ p17 p18 p19 p20 p21 p22, jv d 36 240 [some (.ref 72), some (.int l1), some (.int l2), some (.int l3), some (.int (vI a)), some (.int (vI b)), some (.int (vI c)), some (.int (nI q)), some (.int l8), some (.int (nI s)), some (.long (lI x)), none, some (.long (lI y)), none, some (.long (lI z)), none, some (.int (nI k)), some (.int (vI P)), some (.int (nI (16 * s + k))), some (.int (vI l)), some (.int (vI v)), o21, o22] [.int (vI u)] (shC, I, L, pX pa pb pu pw) = jv d 36 106 [some (.ref 72), some (.int l1), some (.int l2), some (.int l3), some (.int (vI a)), some (.int (vI b)), some (.int (vI c)), some (.int (nI q)), some (.int l8), some (.int (nI s)), some (.long (lI (x + wP l u))), none, some (.long (lI (y + wP l u * (2 * k - 15)))), none, some (.long (lI (z + wM l u))), none, some (.int (nI (k + 1))), p17, p18, p19, p20, p21, p22] [] (shC, I, L, pX pa pb pu pw) := by
    intro u o21 o22 u1 u2
    rw [B36_240]
    unfold wP wM
    by_cases g : l < u
    · rw [if_pos ((vI_lt (by omega) (by omega) (by omega) (by omega)).mpr g), if_pos g, if_pos g, B36_294, n1, vI_sub, vI_add, vI_64 (by omega) (by omega), vI_64 (by omega) (by omega), k64, lI_add, lI_mul, lI_mul, lI_add, lI_add]
      exact ⟨_, _, _, _, _, _, rfl⟩
    · rw [if_neg (fun w => g ((vI_lt (by omega) (by omega) (by omega) (by omega)).mp w)), if_neg g, if_neg g, B36_294, n1, Int.zero_mul, Int.add_zero, Int.add_zero, Int.add_zero]
      exact ⟨_, _, _, _, _, _, rfl⟩
  by_cases g : P < v
  · rw [if_pos ((vI_lt (by omega) (by omega) (by omega) (by omega)).mpr g), if_pos g]
    exact fin P _ _ pb'.1 pb'.2
  · rw [if_neg (fun w => g ((vI_lt (by omega) (by omega) (by omega) (by omega)).mp w)), if_neg g]
    exact fin v _ _ (by omega) (by omega)
end SEAB
