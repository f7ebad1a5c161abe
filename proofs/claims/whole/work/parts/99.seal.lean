/-! SEA: what a set weighs, by columns -/
section SEAL
variable {lo hi : Nat → Int} {sF sT cF cT : Nat → Nat} {fl rf bt : Nat → Int}
theorem blk_cols2 (g : Nat → Nat → Int) {f n f' n' : Nat} (h1 : n = 0 ∨ f + n ≤ 16) (h2 : n' = 0 ∨ f' + n' ≤ 16) : sZ (fun s => sZ (fun k => g s k) f' n') f n = sZ (fun s => sZ (fun k => if (f ≤ s ∧ s < f + n) ∧ (f' ≤ k ∧ k < f' + n') then g s k else 0) 0 16) 0 16 := by
  rw [sZ_ind (N := 16) _ h1]
  apply sZ_congr
  intro s
  rw [sZ_ind (N := 16) (fun k => g s k) (a := f') h2, sZ_if]
  apply sZ_congr
  intro k
  by_cases z1 : f ≤ s ∧ s < f + n
  · by_cases z2 : f' ≤ k ∧ k < f' + n'
    · rw [if_pos z1, if_pos z2, if_pos ⟨z1, z2⟩]
    · rw [if_pos z1, if_neg z2, if_neg (fun y => z2 y.2)]
  · rw [if_neg z1, if_neg (fun y => z1 y.1)]
/-- one column's share -/
def gC (lo hi : Nat → Int) (fl rf bt : Nat → Int) (a b c : Int) (w q s k : Nat) : Int := if w = 0 then wP (wL (lo (16 * s + k)) (fl q)) (wU (hi (16 * s + k)) (rf q) (plY a b c s k)) * bt q else if w = 1 then wP (wL (lo (16 * s + k)) (fl q)) (wU (hi (16 * s + k)) (rf q) (plY a b c s k)) * bt q * (2 * s - 15) else if w = 2 then wP (wL (lo (16 * s + k)) (fl q)) (wU (hi (16 * s + k)) (rf q) (plY a b c s k)) * (2 * k - 15) * bt q else wM (wL (lo (16 * s + k)) (fl q)) (wU (hi (16 * s + k)) (rf q) (plY a b c s k)) * bt q
theorem gB_cols (a b c : Int) (q s : Nat) : ∀ w, gB lo hi cF cT fl rf bt a b c q w s = sZ (fun k => gC lo hi fl rf bt a b c w q s k) (cF q) (cT q + 1 - cF q) := by
  intro w
  unfold gB gC
  by_cases w0 : w = 0
  · rw [if_pos w0, sZ_congr (fun k => if_pos w0)]
    unfold cA
    rw [← sZ_mul]
    rfl
  · rw [if_neg w0, sZ_congr (fun k => if_neg w0)]
    by_cases w1 : w = 1
    · rw [if_pos w1, sZ_congr (fun k => if_pos w1)]
      unfold cA
      rw [← sZ_mul, ← sZ_mul]
      rfl
    · rw [if_neg w1, sZ_congr (fun k => if_neg w1)]
      by_cases w2 : w = 2
      · rw [if_pos w2, sZ_congr (fun k => if_pos w2)]
        unfold cY
        rw [← sZ_mul]
        rfl
      · rw [if_neg w2, sZ_congr (fun k => if_neg w2)]
        unfold cZ
        rw [← sZ_mul]
        rfl
/-- a block holds a column within some slices -/
abbrev inT2 (sF sT cF cT : Nat → Nat) (t0 t1 q s k : Nat) : Prop := (fS0 sF t0 q ≤ s ∧ s < fS0 sF t0 q + nS0 sF sT t0 t1 q) ∧ (cF q ≤ k ∧ k < cF q + (cT q + 1 - cF q))
theorem wB_cols (sb : Nat → Bool) (hT : ∀ q, q < 17 → sT q ≤ 15 ∧ cT q ≤ 15) (a b c : Int) (t0 t1 w : Nat) : wB sb lo hi sF sT cF cT fl rf bt a b c t0 t1 w 17 = sZ (fun s => sZ (fun k => sZ (fun q => if sb q = true ∧ inT2 sF sT cF cT t0 t1 q s k then gC lo hi fl rf bt a b c w q s k else 0) 0 17) 0 16) 0 16 := by
  have one : wB sb lo hi sF sT cF cT fl rf bt a b c t0 t1 w 17 = sZ (fun q => sZ (fun s => sZ (fun k => if sb q = true ∧ inT2 sF sT cF cT t0 t1 q s k then gC lo hi fl rf bt a b c w q s k else 0) 0 16) 0 16) 0 17 := by
    unfold wB
    apply sZ_cg
    intro q _ hq
    have hq' := hT q (by omega)
    have e : bkB lo hi sF sT cF cT fl rf bt a b c t0 t1 q w = sZ (fun s => sZ (fun k => if inT2 sF sT cF cT t0 t1 q s k then gC lo hi fl rf bt a b c w q s k else 0) 0 16) 0 16 := by
      rw [← blk_cols2 (fun s k => gC lo hi fl rf bt a b c w q s k) (f := fS0 sF t0 q) (n := nS0 sF sT t0 t1 q) (f' := cF q) (n' := cT q + 1 - cF q) (by unfold nS0; split <;> omega) (by omega)]
      unfold bkB
      exact sZ_congr (fun s => gB_cols _ _ _ _ _ _) _ _
    rw [e, sZ_if]
    apply sZ_congr
    intro s
    rw [sZ_if]
    apply sZ_congr
    intro k
    by_cases z1 : sb q = true
    · by_cases z2 : inT2 sF sT cF cT t0 t1 q s k
      · rw [if_pos z1, if_pos z2, if_pos ⟨z1, z2⟩]
      · rw [if_pos z1, if_neg z2, if_neg (fun y => z2 y.2)]
    · rw [if_neg z1, if_neg (fun y => z1 y.1)]
  rw [one, sZ_swap]
  apply sZ_congr
  intro s
  rw [sZ_swap]
end SEAL
