/-! SEA: sums over the points of a column -/
section SEAA
/-- f summed over n points from lo on -/
def sI (f : Int → Int) (lo : Int) : Nat → Int
  | 0 => 0
  | n + 1 => sI f lo n + f (lo + n)
theorem sI_congr {f g : Int → Int} {lo : Int} : ∀ {n : Nat}, (∀ y, lo ≤ y → y < lo + n → f y = g y) → sI f lo n = sI g lo n := by
  intro n
  induction n with
  | zero => intro _; rfl
  | succ n ih =>
    intro h
    show sI f lo n + f (lo + n) = sI g lo n + g (lo + n)
    rw [ih (fun y a b => h y a (by omega)), h (lo + n) (by omega) (by omega)]
theorem sI_split (f : Int → Int) (lo : Int) (a : Nat) : ∀ b : Nat, sI f lo (a + b) = sI f lo a + sI f (lo + a) b := by
  intro b
  induction b with
  | zero => show sI f lo a = sI f lo a + 0; omega
  | succ b ih =>
    show sI f lo (a + b) + f (lo + ((a + b : Nat) : Int)) = sI f lo a + (sI f (lo + a) b + f (lo + a + b))
    rw [ih, show lo + ((a + b : Nat) : Int) = lo + a + b by omega]
    omega
theorem sI_add (f g : Int → Int) (lo : Int) : ∀ n : Nat, sI (fun y => f y + g y) lo n = sI f lo n + sI g lo n := by
  intro n
  induction n with
  | zero => rfl
  | succ n ih =>
    show sI (fun y => f y + g y) lo n + (f (lo + n) + g (lo + n)) = (sI f lo n + f (lo + n)) + (sI g lo n + g (lo + n))
    rw [ih]; omega
theorem sI_mul (c : Int) (f : Int → Int) (lo : Int) : ∀ n : Nat, sI (fun y => c * f y) lo n = c * sI f lo n := by
  intro n
  induction n with
  | zero => show (0 : Int) = c * 0; rw [Int.mul_zero]
  | succ n ih =>
    show sI (fun y => c * f y) lo n + c * f (lo + n) = c * (sI f lo n + f (lo + n))
    rw [ih, Int.mul_add]
theorem sI_const (c lo : Int) : ∀ n : Nat, sI (fun _ => c) lo n = c * n := by
  intro n
  induction n with
  | zero => show (0 : Int) = c * 0; rw [Int.mul_zero]
  | succ n ih =>
    show sI (fun _ => c) lo n + c = c * ((n + 1 : Nat) : Int)
    rw [ih, show ((n + 1 : Nat) : Int) = (n : Int) + 1 by omega, Int.mul_add, Int.mul_one]
/-- heights doubled, at the middles of the points -/
theorem sI_mid (lo : Int) : ∀ n : Nat, sI (fun y => 2 * y + 1) lo n = (n : Int) * (lo + (lo + n)) := by
  intro n
  induction n with
  | zero => show (0 : Int) = 0 * _; rw [Int.zero_mul]
  | succ n ih =>
    show sI (fun y => 2 * y + 1) lo n + (2 * (lo + n) + 1) = ((n + 1 : Nat) : Int) * (lo + (lo + ((n + 1 : Nat) : Int)))
    rw [ih, show ((n + 1 : Nat) : Int) = (n : Int) + 1 by omega, Int.add_mul, Int.one_mul]
    rw [show lo + (lo + ((n : Int) + 1)) = (lo + (lo + n)) + 1 by omega, Int.mul_add (n : Int) (lo + (lo + n)) 1, Int.mul_one]
    generalize (n : Int) * (lo + (lo + n)) = Q
    omega
/-- points from a to b -/
def sR (f : Int → Int) (a b : Int) : Int := sI f a (b - a).toNat
theorem sR_nil {f : Int → Int} {a b : Int} (h : b ≤ a) : sR f a b = 0 := by
  unfold sR
  rw [show (b - a).toNat = 0 by omega]
  rfl
theorem sR_split {f : Int → Int} {a b c : Int} (h1 : a ≤ b) (h2 : b ≤ c) : sR f a c = sR f a b + sR f b c := by
  unfold sR
  rw [show (c - a).toNat = (b - a).toNat + (c - b).toNat by omega, sI_split, show a + ((b - a).toNat : Int) = b by omega]
theorem sR_congr {f g : Int → Int} {a b : Int} (h : ∀ y, a ≤ y → y < b → f y = g y) : sR f a b = sR g a b := by
  unfold sR
  exact sI_congr (fun y h1 h2 => h y h1 (by omega))
theorem sR_const {c a b : Int} (h : a ≤ b) : sR (fun _ => c) a b = c * (b - a) := by
  unfold sR
  rw [sI_const, show ((b - a).toNat : Int) = b - a by omega]
theorem sR_mid {a b : Int} (h : a ≤ b) : sR (fun y => 2 * y + 1) a b = (b - a) * (a + b) := by
  unfold sR
  rw [sI_mid, show ((b - a).toNat : Int) = b - a by omega, show a + (a + (b - a)) = a + b by omega]
theorem sR_add (f g : Int → Int) (a b : Int) : sR (fun y => f y + g y) a b = sR f a b + sR g a b := sI_add _ _ _ _
theorem sR_mul (c : Int) (f : Int → Int) (a b : Int) : sR (fun y => c * f y) a b = c * sR f a b := sI_mul _ _ _ _
/-- what lies between two heights counts -/
def bx (lo hi : Int) (f : Int → Int) (y : Int) : Int := if lo ≤ y ∧ y < hi then f y else 0
theorem sR_zero {f : Int → Int} {a b : Int} (h : ∀ y, a ≤ y → y < b → f y = 0) : sR f a b = 0 := by
  rw [sR_congr (g := fun _ => 0) h]
  by_cases z : a ≤ b
  · rw [sR_const z, Int.zero_mul]
  · exact sR_nil (by omega)
/-- a block within a column: only what both have -/
theorem sR_bx (f : Int → Int) (a b lo hi : Int) : sR (bx lo hi f) a b = sR f (if lo < a then a else lo) (if b < hi then b else hi) := by
  by_cases z : (if b < hi then b else hi) ≤ (if lo < a then a else lo)
  · rw [sR_nil z]
    apply sR_zero
    intro y h1 h2
    unfold bx
    rw [if_neg]
    intro q
    by_cases z1 : b < hi <;> by_cases z2 : lo < a <;> simp only [z1, z2, ↓reduceIte] at z <;> omega
  · have e1 : a ≤ (if lo < a then a else lo) := by split <;> omega
    have e2 : lo ≤ (if lo < a then a else lo) := by split <;> omega
    have e3 : (if b < hi then b else hi) ≤ b := by split <;> omega
    have e4 : (if b < hi then b else hi) ≤ hi := by split <;> omega
    have e5 : (if lo < a then a else lo) = a ∨ (if lo < a then a else lo) = lo := by split <;> simp
    have e6 : (if b < hi then b else hi) = b ∨ (if b < hi then b else hi) = hi := by split <;> simp
    generalize (if lo < a then a else lo) = u at z e1 e2 e5 ⊢
    generalize (if b < hi then b else hi) = v at z e3 e4 e6 ⊢
    rw [sR_split (b := u) e1 (by omega), sR_split (b := v) (a := u) (by omega) e3]
    have p1 : sR (bx lo hi f) a u = 0 := by
      apply sR_zero
      intro y h1 h2
      unfold bx
      rw [if_neg (by omega)]
    have p2 : sR (bx lo hi f) v b = 0 := by
      apply sR_zero
      intro y h1 h2
      unfold bx
      rw [if_neg (by omega)]
    have p3 : sR (bx lo hi f) u v = sR f u v := by
      apply sR_congr
      intro y h1 h2
      unfold bx
      rw [if_pos (by omega)]
    rw [p1, p2, p3]
    omega
/-- more never weighs less -/
theorem sR_up {f : Int → Int} (hf : ∀ y, 0 ≤ f y) (a : Int) {b c : Int} (h : b ≤ c) : sR f a b ≤ sR f a c := by
  have pos : ∀ (lo : Int) (n : Nat), 0 ≤ sI f lo n := by
    intro lo n
    induction n with
    | zero => exact Int.le_refl _
    | succ n ih => show 0 ≤ sI f lo n + f (lo + n); have := hf (lo + n); omega
  by_cases z : a ≤ b
  · rw [sR_split z h]
    have : 0 ≤ sR f b c := pos _ _
    omega
  · rw [sR_nil (by omega)]
    exact pos _ _
theorem sR_step {f : Int → Int} {a b : Int} (h : a ≤ b) : sR f a (b + 1) = sR f a b + f b := by
  rw [sR_split (b := b) h (by omega)]
  congr 1
  unfold sR
  rw [show (b + 1 - b).toNat = 1 by omega]
  show 0 + f (b + ((0 : Nat) : Int)) = f b
  rw [show b + ((0 : Nat) : Int) = b by omega]
  omega
end SEAA
