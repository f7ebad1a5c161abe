/-! SEA: measuring, first one -/
section SEAE
variable {d : Nat} {I : Nat → Nat → Int32} {L : Nat → Nat → Int64} {pa pb pu pw : Option Nat} {lo hi : Nat → Int} {sF sT cF cT : Nat → Nat} {fl rf bt : Nat → Int}
/-- whether a column rises with its plane -/
def wR (l u p : Int) : Int := if p < l then 0 else if p < u then 1 else 0
def wV (hi rf : Int) : Int := if hi < rf then hi else rf
def cR (lo hi : Nat → Int) (fl rf : Int) (f n : Nat) (a b c : Int) (s : Nat) : Int := sZ (fun k => wR (wL (lo (16 * s + k)) fl) (wV (hi (16 * s + k)) rf) (plY a b c s k)) f n
theorem plY_s (a b c : Int) (s k : Nat) : vI (plY a b c s k) + 2 * vI c = vI (plY a b c s (k + 1)) := by
  rw [show (2 : Int32) = vI 2 from rfl, vI_mul, vI_add]
  unfold plY
  congr 1
  rw [show (2 * ((k + 1 : Nat) : Int) - 15) = (2 * (k : Int) - 15) + 2 by omega, Int.mul_add, Int.mul_comm c 2]
  omega
theorem mcol_1 (hD : hlD I lo hi sF sT cF cT fl rf bt) {a b c : Int} {s k q : Nat} (ha : -200001 ≤ a ∧ a ≤ 200001) (hb : -2048 ≤ b ∧ b ≤ 2048) (hc : -2048 ≤ c ∧ c ≤ 2048) (hs : s < 16) (hk : k ≤ cT q) (hq : q < 17) (l1 l10 : Int32) (x y : Int) (o18 o19 : Option Value) : ∃ p18 p19, jv d 35 141 [some (.ref 72), some (.int l1), some (.int (vI a)), some (.int (vI b)), some (.int (vI c)), some (.ref 73), some (.ref 74), some (.int (nI q)), some (.int (vI (fl q))), some (.int (vI (rf q))), some (.int l10), some (.int (nI (cT q))), some (.long (lI x)), none, some (.int (vI y)), some (.int (nI s)), some (.int (vI (plY a b c s k))), some (.int (nI (16 * s + k))), o18, o19] [] (shC, I, L, pX pa pb pu pw) = jv d 35 141 [some (.ref 72), some (.int l1), some (.int (vI a)), some (.int (vI b)), some (.int (vI c)), some (.ref 73), some (.ref 74), some (.int (nI q)), some (.int (vI (fl q))), some (.int (vI (rf q))), some (.int l10), some (.int (nI (cT q))), some (.long (lI (x + wP (wL (lo (16 * s + k)) (fl q)) (wU (hi (16 * s + k)) (rf q) (plY a b c s k))))), none, some (.int (vI (y + wR (wL (lo (16 * s + k)) (fl q)) (wV (hi (16 * s + k)) (rf q)) (plY a b c s k)))), some (.int (nI s)), some (.int (vI (plY a b c s (k + 1)))), some (.int (nI (16 * s + (k + 1)))), p18, p19] [] (shC, I, L, pX pa pb pu pw) := by
  obtain ⟨_, _, d3, d4, _, _, _, d8, d9, d10, d11, d12, d13, d14, _, _, _⟩ := hD.2 q hq
  have k16 : k < 16 := by omega
  obtain ⟨e1, e2, e3, e4, e5, e6⟩ := hD.1 (16 * s + k) (by omega)
  have pb' := plY_b ha hb hc hs k16
  have ji : j_in (nI (16 * s + k)) 256 = true := j_in_nI (by omega) (by decide)
  have ei : (16 : Int32) * nI s + nI (cT q) = nI (16 * s + cT q) := by rw [show (16 : Int32) = nI 16 from rfl, nI_mul, nI_add]
  have ci : (nI (16 * s + k)).toNatClampNeg = 16 * s + k := nI_clamp (by omega)
  have n1 : nI (16 * s + k) + 1 = nI (16 * s + (k + 1)) := nI_add _ 1
  have ps := plY_s a b c s k
  generalize plY a b c s k = P at pb' ps ⊢
  rw [B35_141, ei, if_neg (nI_nlt (by omega) (by omega)), if_pos ji, ci, e1]
  have wb : 0 ≤ wL (lo (16 * s + k)) (fl q) ∧ wL (lo (16 * s + k)) (fl q) ≤ 128000 := by unfold wL; split <;> omega
  have vb : 0 ≤ wV (hi (16 * s + k)) (rf q) ∧ wV (hi (16 * s + k)) (rf q) ≤ 200000 := by unfold wV; split <;> omega
  -- from the lower end on
  have go : ∀ (l : Int) (o18 : Int32), l = wL (lo (16 * s + k)) (fl q) → ∃ p18 p19, jv d 35 175 [some (.ref 72), some (.int l1), some (.int (vI a)), some (.int (vI b)), some (.int (vI c)), some (.ref 73), some (.ref 74), some (.int (nI q)), some (.int (vI (fl q))), some (.int (vI (rf q))), some (.int l10), some (.int (nI (cT q))), some (.long (lI x)), none, some (.int (vI y)), some (.int (nI s)), some (.int (vI P)), some (.int (nI (16 * s + k))), some (.int o18), o19] [.int (vI l)] (shC, I, L, pX pa pb pu pw) = jv d 35 141 [some (.ref 72), some (.int l1), some (.int (vI a)), some (.int (vI b)), some (.int (vI c)), some (.ref 73), some (.ref 74), some (.int (nI q)), some (.int (vI (fl q))), some (.int (vI (rf q))), some (.int l10), some (.int (nI (cT q))), some (.long (lI (x + wP (wL (lo (16 * s + k)) (fl q)) (wU (hi (16 * s + k)) (rf q) P)))), none, some (.int (vI (y + wR (wL (lo (16 * s + k)) (fl q)) (wV (hi (16 * s + k)) (rf q)) P))), some (.int (nI s)), some (.int (vI (plY a b c s (k + 1)))), some (.int (nI (16 * s + (k + 1)))), p18, p19] [] (shC, I, L, pX pa pb pu pw) := by
    intro l o18 hl
    rw [← hl] at wb ⊢
    have wu : wU (hi (16 * s + k)) (rf q) P = if P < wV (hi (16 * s + k)) (rf q) then P else wV (hi (16 * s + k)) (rf q) := rfl
    rw [B35_175]
    by_cases g : P < l
    · have z1 : wP l (wU (hi (16 * s + k)) (rf q) P) = 0 := by
        rw [wu]; unfold wP; rw [if_neg]; split <;> omega
      have z2 : wR l (wV (hi (16 * s + k)) (rf q)) P = 0 := by unfold wR; rw [if_pos g]
      rw [if_pos ((vI_lt (by omega) (by omega) (by omega) (by omega)).mpr g), B35_249, ps, n1, z1, z2, Int.add_zero, Int.add_zero]
      exact ⟨_, _, rfl⟩
    rw [if_neg (fun w => g ((vI_lt (by omega) (by omega) (by omega) (by omega)).mp w)), if_pos ji, ci, e4]
    have top : ∀ v : Int, v = wV (hi (16 * s + k)) (rf q) → ∀ o19 : Int32, ∃ p18 p19, jv d 35 205 [some (.ref 72), some (.int l1), some (.int (vI a)), some (.int (vI b)), some (.int (vI c)), some (.ref 73), some (.ref 74), some (.int (nI q)), some (.int (vI (fl q))), some (.int (vI (rf q))), some (.int l10), some (.int (nI (cT q))), some (.long (lI x)), none, some (.int (vI y)), some (.int (nI s)), some (.int (vI P)), some (.int (nI (16 * s + k))), some (.int (vI l)), some (.int o19)] [.int (vI v)] (shC, I, L, pX pa pb pu pw) = jv d 35 141 [some (.ref 72), some (.int l1), some (.int (vI a)), some (.int (vI b)), some (.int (vI c)), some (.ref 73), some (.ref 74), some (.int (nI q)), some (.int (vI (fl q))), some (.int (vI (rf q))), some (.int l10), some (.int (nI (cT q))), some (.long (lI (x + wP l (wU (hi (16 * s + k)) (rf q) P)))), none, some (.int (vI (y + wR l (wV (hi (16 * s + k)) (rf q)) P))), some (.int (nI s)), some (.int (vI (plY a b c s (k + 1)))), some (.int (nI (16 * s + (k + 1)))), p18, p19] [] (shC, I, L, pX pa pb pu pw) := by
      intro v hv o19
      rw [wu, ← hv]
      rw [← hv] at vb
      rw [B35_205]
      by_cases g2 : P < v
      · have z1 : wP l (if P < v then P else v) = P - l := by
          rw [if_pos g2]; unfold wP; split <;> omega
        have z2 : wR l v P = 1 := by unfold wR; rw [if_neg g, if_pos g2]
        rw [if_pos ((vI_lt (by omega) (by omega) (by omega) (by omega)).mpr g2), B35_249, ps, n1, z1, z2, vI_sub, vI_64 (by omega) (by omega), lI_add, show (1 : Int32) = vI 1 from rfl, vI_add]
        exact ⟨_, _, rfl⟩
      · have z2 : wR l v P = 0 := by unfold wR; rw [if_neg g, if_neg g2]
        rw [if_neg (fun w => g2 ((vI_lt (by omega) (by omega) (by omega) (by omega)).mp w)), z2, Int.add_zero, if_neg g2]
        unfold wP
        by_cases g3 : l < v
        · rw [if_pos ((vI_lt (by omega) (by omega) (by omega) (by omega)).mpr g3), B35_249, ps, n1, if_pos g3, vI_sub, vI_64 (by omega) (by omega), lI_add]
          exact ⟨_, _, rfl⟩
        · rw [if_neg (fun w => g3 ((vI_lt (by omega) (by omega) (by omega) (by omega)).mp w)), B35_249, ps, n1, if_neg g3, Int.add_zero]
          exact ⟨_, _, rfl⟩
    by_cases g4 : hi (16 * s + k) < rf q
    · rw [if_pos ((vI_lt (by omega) (by omega) (by omega) (by omega)).mpr g4)]
      exact top _ (by unfold wV; rw [if_pos g4]) _
    · rw [if_neg (fun w => g4 ((vI_lt (by omega) (by omega) (by omega) (by omega)).mp w))]
      exact top _ (by unfold wV; rw [if_neg g4]) _
  by_cases g5 : fl q < lo (16 * s + k)
  · rw [if_pos ((vI_lt (by omega) (by omega) (by omega) (by omega)).mpr g5)]
    exact go _ _ (by unfold wL; rw [if_pos g5])
  · rw [if_neg (fun w => g5 ((vI_lt (by omega) (by omega) (by omega) (by omega)).mp w))]
    exact go _ _ (by unfold wL; rw [if_neg g5])
end SEAE
