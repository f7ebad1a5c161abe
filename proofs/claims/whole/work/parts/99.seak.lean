/-! SEA: a column's points -/
section SEAK
variable {lo hi : Nat → Int} {sF sT cF cT : Nat → Nat} {fl rf bt : Nat → Int}
theorem wU_b (hi rf pl : Int) : wU hi rf pl = if (if pl < hi then pl else hi) < rf then (if pl < hi then pl else hi) else rf := by
  unfold wU
  by_cases g1 : hi < rf <;> by_cases g2 : pl < hi <;> simp only [g1, g2, ↓reduceIte] <;> split <;> first | rfl | omega | (split <;> omega)
theorem sR_sZ (f : Nat → Int → Int) (a b : Int) (u : Nat) : ∀ n : Nat, sR (fun y => sZ (fun q => f q y) u n) a b = sZ (fun q => sR (f q) a b) u n := by
  intro n
  induction n with
  | zero => exact sR_zero (fun _ _ _ => rfl)
  | succ n ih =>
    show sR (fun y => sZ (fun q => f q y) u n + f (u + n) y) a b = sZ (fun q => sR (f q) a b) u n + sR (f (u + n)) a b
    rw [sR_add, ih]
/-- what a point of a column weighs -/
def ptB (C : Nat → Prop) [∀ q, Decidable (C q)] (fl rf bt : Nat → Int) (y : Int) : Int := sZ (fun q => if C q then bx (fl q) (rf q) (fun _ => bt q) y else 0) 0 17
theorem col_s (C : Nat → Prop) [∀ q, Decidable (C q)] (l h pl : Int) : sZ (fun q => if C q then wP (wL l (fl q)) (wU h (rf q) pl) * bt q else 0) 0 17 = sR (ptB C fl rf bt) l (if pl < h then pl else h) := by
  have e : sR (ptB C fl rf bt) l (if pl < h then pl else h) = sZ (fun q => sR (fun y => if C q then bx (fl q) (rf q) (fun _ => bt q) y else 0) l (if pl < h then pl else h)) 0 17 := sR_sZ (fun q y => if C q then bx (fl q) (rf q) (fun _ => bt q) y else 0) _ _ _ _
  rw [e]
  apply sZ_congr
  intro q
  by_cases z : C q
  · rw [if_pos z, sR_congr (g := bx (fl q) (rf q) (fun _ => bt q)) (fun y _ _ => by rw [if_pos z]), sR_bx, wP_s, wU_b]
    unfold wL
    rw [sR_congr (f := fun _ => bt q) (g := fun _ => bt q * 1) (fun _ _ _ => (Int.mul_one _).symm), sR_mul, Int.mul_comm]
  · rw [if_neg z]
    exact (sR_zero (fun y _ _ => by rw [if_neg z])).symm
theorem col_z (C : Nat → Prop) [∀ q, Decidable (C q)] (l h pl : Int) : sZ (fun q => if C q then wM (wL l (fl q)) (wU h (rf q) pl) * bt q else 0) 0 17 = sR (fun y => ptB C fl rf bt y * (2 * y + 1)) l (if pl < h then pl else h) := by
  have e0 : ∀ y, ptB C fl rf bt y * (2 * y + 1) = sZ (fun q => (if C q then bx (fl q) (rf q) (fun _ => bt q) y else 0) * (2 * y + 1)) 0 17 := fun y => (sZ_mul _ _ _ _).symm
  have e : sR (fun y => ptB C fl rf bt y * (2 * y + 1)) l (if pl < h then pl else h) = sZ (fun q => sR (fun y => (if C q then bx (fl q) (rf q) (fun _ => bt q) y else 0) * (2 * y + 1)) l (if pl < h then pl else h)) 0 17 := by
    rw [sR_congr (fun y _ _ => e0 y)]
    exact sR_sZ (fun q y => (if C q then bx (fl q) (rf q) (fun _ => bt q) y else 0) * (2 * y + 1)) _ _ _ _
  rw [e]
  apply sZ_congr
  intro q
  by_cases z : C q
  · have e2 : sR (fun y => (if C q then bx (fl q) (rf q) (fun _ => bt q) y else 0) * (2 * y + 1)) l (if pl < h then pl else h) = sR (bx (fl q) (rf q) (fun y => bt q * (2 * y + 1))) l (if pl < h then pl else h) := by
      apply sR_congr
      intro y _ _
      rw [if_pos z]
      unfold bx
      by_cases w : fl q ≤ y ∧ y < rf q
      · rw [if_pos w, if_pos w]
      · rw [if_neg w, if_neg w, Int.zero_mul]
    rw [if_pos z, e2, sR_bx, wM_s, wU_b]
    unfold wL
    rw [sR_mul, Int.mul_comm]
  · rw [if_neg z]
    exact (sR_zero (fun y _ _ => by rw [if_neg z, Int.zero_mul])).symm
end SEAK
