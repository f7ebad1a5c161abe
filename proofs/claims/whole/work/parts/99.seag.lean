/-! SEA: the greatest level, first one -/
section SEAG
variable {d : Nat} {I : Nat → Nat → Int32} {L : Nat → Nat → Int64} {pa pb pu pw : Option Nat} {lo hi : Nat → Int} {sF sT cF cT : Nat → Nat} {fl rf bt : Nat → Int}
/-- a search under way: no more than most at the lower end; at least one more at the upper one, or it is out of reach -/
def lvI (M : Int → Int) (most be ab : Int) : Prop := -100000 ≤ be ∧ be < ab ∧ ab ≤ 200001 ∧ M be ≤ most ∧ (ab = 200001 ∨ most < M ab)
/-- width left before try i, where t tries ago the middle was taken -/
def lvW (i : Nat) (w : Int) : Prop := w ≤ 1 ∨ w * 2 ^ (i / 3) ≤ 300001 + 2 ^ (i / 3)
/-- one try -/
theorem lv_step {M R : Int → Int} (hR : ∀ a, R a = M (a + 1) - M a) {most be ab at_ : Int} (h : lvI M most be ab) (h1 : be ≤ at_) (h2 : at_ < ab) : ∃ be' ab', ((most < M at_ ∧ be' = be ∧ ab' = at_) ∨ (¬ most < M at_ ∧ be' = at_ ∧ ab' = if most < M at_ + R at_ then at_ + 1 else ab)) ∧ lvI M most be' ab' ∧ ab' - be' ≤ ab - be := by
  obtain ⟨i1, i2, i3, i4, i5⟩ := h
  by_cases g : most < M at_
  · have ne : at_ ≠ be := fun z => by rw [z] at g; omega
    exact ⟨be, at_, Or.inl ⟨g, rfl, rfl⟩, ⟨i1, by omega, by omega, i4, Or.inr g⟩, by omega⟩
  · have hs := hR at_
    by_cases g2 : most < M at_ + R at_
    · exact ⟨at_, at_ + 1, Or.inr ⟨g, rfl, by rw [if_pos g2]⟩, ⟨by omega, by omega, by omega, by omega, Or.inr (by omega)⟩, by omega⟩
    · exact ⟨at_, ab, Or.inr ⟨g, rfl, by rw [if_neg g2]⟩, ⟨by omega, h2, i3, by omega, i5⟩, by omega⟩
/-- a try in the middle halves -/
theorem lv_half {M R : Int → Int} {most be ab at_ be' ab' : Int} (hm : at_ = be + (ab - be) / 2) (hw : 1 < ab - be) (h : (most < M at_ ∧ be' = be ∧ ab' = at_) ∨ (¬ most < M at_ ∧ be' = at_ ∧ ab' = if most < M at_ + R at_ then at_ + 1 else ab)) : (ab' - be') * 2 ≤ (ab - be) + 1 := by
  rcases h with ⟨_, e1, e2⟩ | ⟨_, e1, e2⟩
  · omega
  · by_cases g : most < M at_ + R at_
    · rw [if_pos g] at e2; omega
    · rw [if_neg g] at e2; omega
/-- where the next try is -/
def lvN (be ab nx : Int) : Int := if nx ≤ be then be + 1 else if ab ≤ nx then ab - 1 else nx
theorem lvN_b {be ab nx : Int} (h : 1 < ab - be) : be < lvN be ab nx ∧ lvN be ab nx < ab := by
  unfold lvN
  split
  · omega
  · split <;> omega
theorem lvN_m {be ab : Int} (h : 1 < ab - be) : lvN be ab (be + (ab - be) / 2) = be + (ab - be) / 2 := by
  unfold lvN
  rw [if_neg (by omega), if_neg (by omega)]
/-- the greatest level is one, so both find the same -/
theorem lv_one {M : Int → Int} (hM : ∀ a b, a ≤ b → M a ≤ M b) {most x y : Int} (hx : lvI M most x (x + 1)) (hy : lvI M most y (y + 1)) : x = y := by
  obtain ⟨a1, a2, a3, a4, a5⟩ := hx
  obtain ⟨b1, b2, b3, b4, b5⟩ := hy
  rcases Int.lt_trichotomy x y with z | z | z
  · rcases a5 with q | q
    · omega
    · have := hM (x + 1) y (by omega); omega
  · exact z
  · rcases b5 with q | q
    · omega
    · have := hM (y + 1) x (by omega); omega
/-- what one point more adds in a column -/
theorem wP_step (l hi rf p : Int) : wP l (wU hi rf (p + 1)) = wP l (wU hi rf p) + wR l (wV hi rf) p := by
  unfold wP wU wR wV
  by_cases g1 : hi < rf
  · simp only [g1, ↓reduceIte]
    by_cases g2 : p < hi <;> by_cases g3 : p + 1 < hi <;> by_cases g4 : p < l <;> simp only [g2, g3, g4, ↓reduceIte] <;> (split <;> first | omega | (split <;> omega))
  · simp only [g1, ↓reduceIte]
    by_cases g2 : p < rf <;> by_cases g3 : p + 1 < rf <;> by_cases g4 : p < l <;> simp only [g2, g3, g4, ↓reduceIte] <;> (split <;> first | omega | (split <;> omega))
theorem sZ_add (f g : Nat → Int) (a : Nat) : ∀ n : Nat, sZ (fun i => f i + g i) a n = sZ f a n + sZ g a n := by
  intro n
  induction n with
  | zero => rfl
  | succ n ih =>
    show sZ (fun i => f i + g i) a n + (f (a + n) + g (a + n)) = (sZ f a n + f (a + n)) + (sZ g a n + g (a + n))
    rw [ih]; omega
theorem sZ_congr {f g : Nat → Int} (h : ∀ i, f i = g i) (a n : Nat) : sZ f a n = sZ g a n := by rw [show f = g from funext h]
theorem sZ_mul (f : Nat → Int) (c : Int) (a : Nat) : ∀ n : Nat, sZ (fun i => f i * c) a n = sZ f a n * c := by
  intro n
  induction n with
  | zero => show (0 : Int) = 0 * c; rw [Int.zero_mul]
  | succ n ih =>
    show sZ (fun i => f i * c) a n + f (a + n) * c = (sZ f a n + f (a + n)) * c
    rw [ih, Int.add_mul]
theorem plY_up (a b c : Int) (s k : Nat) : plY (a + 1) b c s k = plY a b c s k + 1 := by unfold plY; omega
theorem cA_step (fl rf : Int) (f n : Nat) (a b c : Int) (s : Nat) : cA lo hi fl rf f n (a + 1) b c s = cA lo hi fl rf f n a b c s + cR lo hi fl rf f n a b c s := by
  unfold cA cR
  rw [← sZ_add]
  apply sZ_congr
  intro k
  unfold cQ
  dsimp only
  rw [plY_up, wP_step]
/-- what one point more adds to all -/
theorem wMA_step (sb : Nat → Bool) (a b c : Int) (n : Nat) : wMR sb lo hi sF sT cF cT fl rf bt a b c n = wMA sb lo hi sF sT cF cT fl rf bt (a + 1) b c n - wMA sb lo hi sF sT cF cT fl rf bt a b c n := by
  have e : wMA sb lo hi sF sT cF cT fl rf bt (a + 1) b c n = wMA sb lo hi sF sT cF cT fl rf bt a b c n + wMR sb lo hi sF sT cF cT fl rf bt a b c n := by
    unfold wMA wMR
    rw [← sZ_add]
    apply sZ_congr
    intro q
    cases sb q with
    | false => rfl
    | true =>
      simp only [↓reduceIte]
      rw [← Int.add_mul]
      congr 1
      unfold mA mR
      rw [← sZ_add]
      apply sZ_congr
      intro s
      exact cA_step _ _ _ _ _ _ _ _
  omega
end SEAG
