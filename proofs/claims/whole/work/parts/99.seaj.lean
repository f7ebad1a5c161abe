/-! SEA: sums by columns -/
section SEAJ
variable {lo hi : Nat → Int} {sF sT cF cT : Nat → Nat} {fl rf bt : Nat → Int}
theorem sZ_split (f : Nat → Int) (a m : Nat) : ∀ n : Nat, sZ f a (m + n) = sZ f a m + sZ f (a + m) n := by
  intro n
  induction n with
  | zero => show sZ f a m = sZ f a m + 0; omega
  | succ n ih =>
    show sZ f a (m + n) + f (a + (m + n)) = sZ f a m + (sZ f (a + m) n + f (a + m + n))
    rw [ih, Nat.add_assoc]; omega
theorem sZ_cg {f g : Nat → Int} {a : Nat} : ∀ {n : Nat}, (∀ i, a ≤ i → i < a + n → f i = g i) → sZ f a n = sZ g a n := by
  intro n
  induction n with
  | zero => intro _; rfl
  | succ n ih =>
    intro h
    show sZ f a n + f (a + n) = sZ g a n + g (a + n)
    rw [ih (fun i h1 h2 => h i h1 (by omega)), h (a + n) (by omega) (by omega)]
theorem sZ_nul (a : Nat) : ∀ n : Nat, sZ (fun _ => 0) a n = 0 := by
  intro n
  induction n with
  | zero => rfl
  | succ n ih => show sZ (fun _ => 0) a n + 0 = 0; rw [ih]; rfl
/-- a part of a range -/
theorem sZ_ind (f : Nat → Int) {a n N : Nat} (h : n = 0 ∨ a + n ≤ N) : sZ f a n = sZ (fun i => if a ≤ i ∧ i < a + n then f i else 0) 0 N := by
  by_cases z : n = 0
  · subst z
    exact ((sZ_cg (g := fun _ => 0) (fun i _ _ => by rw [if_neg (by omega)])).trans (sZ_nul 0 N)).symm
  · have h : a + n ≤ N := by omega
    obtain ⟨r, rfl⟩ : ∃ r, N = a + (n + r) := ⟨N - a - n, by omega⟩
    rw [sZ_split, sZ_split]
    have p1 : sZ (fun i => if a ≤ i ∧ i < a + n then f i else 0) 0 a = 0 := by
      exact (sZ_cg (g := fun _ => 0) (fun i _ h2 => by rw [if_neg (by omega)])).trans (sZ_nul 0 a)
    have p3 : sZ (fun i => if a ≤ i ∧ i < a + n then f i else 0) (0 + a + n) r = 0 := by
      exact (sZ_cg (g := fun _ => 0) (fun i h1 h2 => by rw [if_neg (by omega)])).trans (sZ_nul _ r)
    have p2 : sZ (fun i => if a ≤ i ∧ i < a + n then f i else 0) (0 + a) n = sZ f a n := by
      rw [Nat.zero_add]
      exact sZ_cg (fun i h1 h2 => by rw [if_pos ⟨h1, h2⟩])
    rw [p1, p2, p3]
    omega
theorem sZ_swap (f : Nat → Nat → Int) (a b m : Nat) : ∀ n : Nat, sZ (fun i => sZ (fun j => f i j) b m) a n = sZ (fun j => sZ (fun i => f i j) a n) b m := by
  intro n
  induction n with
  | zero => exact (sZ_nul b m).symm
  | succ n ih =>
    show sZ (fun i => sZ (fun j => f i j) b m) a n + sZ (fun j => f (a + n) j) b m = sZ (fun j => sZ (fun i => f i j) a n + f (a + n) j) b m
    rw [ih, sZ_add]
/-- a condition goes in -/
theorem sZ_if (p : Prop) [Decidable p] (f : Nat → Int) (a n : Nat) : (if p then sZ f a n else 0) = sZ (fun i => if p then f i else 0) a n := by
  by_cases z : p
  · rw [if_pos z]
    exact sZ_cg (fun i _ _ => by rw [if_pos z])
  · rw [if_neg z]
    exact ((sZ_cg (g := fun _ => 0) (fun i _ _ => by rw [if_neg z])).trans (sZ_nul a n)).symm
/-- whether a block holds a column -/
abbrev inB (sF sT cF cT : Nat → Nat) (q s k : Nat) : Prop := (sF q ≤ s ∧ s < sF q + (sT q + 1 - sF q)) ∧ (cF q ≤ k ∧ k < cF q + (cT q + 1 - cF q))
/-- a block's sum by columns -/
theorem blk_cols (g : Nat → Nat → Int) {q : Nat} (h1 : sT q ≤ 15) (h2 : cT q ≤ 15) : sZ (fun s => sZ (fun k => g s k) (cF q) (cT q + 1 - cF q)) (sF q) (sT q + 1 - sF q) = sZ (fun s => sZ (fun k => if inB sF sT cF cT q s k then g s k else 0) 0 16) 0 16 := by
  rw [sZ_ind (N := 16) _ (by omega)]
  apply sZ_congr
  intro s
  rw [sZ_ind (N := 16) (fun k => g s k) (a := cF q) (by omega), sZ_if]
  apply sZ_congr
  intro k
  by_cases z1 : sF q ≤ s ∧ s < sF q + (sT q + 1 - sF q)
  · by_cases z2 : cF q ≤ k ∧ k < cF q + (cT q + 1 - cF q)
    · rw [if_pos z1, if_pos z2, if_pos ⟨z1, z2⟩]
    · rw [if_pos z1, if_neg z2, if_neg (fun y => z2 y.2)]
  · rw [if_neg z1, if_neg (fun y => z1 y.1)]
/-- the amount, by columns -/
theorem wMA_cols (sb : Nat → Bool) (hT : ∀ q, q < 17 → sT q ≤ 15 ∧ cT q ≤ 15) (a b c : Int) : wMA sb lo hi sF sT cF cT fl rf bt a b c 17 = sZ (fun s => sZ (fun k => sZ (fun q => if sb q = true ∧ inB sF sT cF cT q s k then wP (wL (lo (16 * s + k)) (fl q)) (wU (hi (16 * s + k)) (rf q) (plY a b c s k)) * bt q else 0) 0 17) 0 16) 0 16 := by
  have one : wMA sb lo hi sF sT cF cT fl rf bt a b c 17 = sZ (fun q => sZ (fun s => sZ (fun k => if sb q = true ∧ inB sF sT cF cT q s k then wP (wL (lo (16 * s + k)) (fl q)) (wU (hi (16 * s + k)) (rf q) (plY a b c s k)) * bt q else 0) 0 16) 0 16) 0 17 := by
    unfold wMA
    apply sZ_cg
    intro q _ hq
    have e : mA lo hi sF sT cF cT fl rf a b c q * bt q = sZ (fun s => sZ (fun k => if inB sF sT cF cT q s k then wP (wL (lo (16 * s + k)) (fl q)) (wU (hi (16 * s + k)) (rf q) (plY a b c s k)) * bt q else 0) 0 16) 0 16 := by
      rw [← blk_cols (fun s k => wP (wL (lo (16 * s + k)) (fl q)) (wU (hi (16 * s + k)) (rf q) (plY a b c s k)) * bt q) (hT q (by omega)).1 (hT q (by omega)).2]
      unfold mA
      rw [← sZ_mul]
      apply sZ_congr
      intro s
      unfold cA
      rw [← sZ_mul]
      rfl
    rw [e, sZ_if]
    apply sZ_congr
    intro s
    rw [sZ_if]
    apply sZ_congr
    intro k
    by_cases z1 : sb q = true
    · by_cases z2 : inB sF sT cF cT q s k
      · rw [if_pos z1, if_pos z2, if_pos ⟨z1, z2⟩]
      · rw [if_pos z1, if_neg z2, if_neg (fun y => z2 y.2)]
    · rw [if_neg z1, if_neg (fun y => z1 y.1)]
  rw [one, sZ_swap]
  apply sZ_congr
  intro s
  rw [sZ_swap]
end SEAJ
