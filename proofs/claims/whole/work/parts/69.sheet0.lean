/-! SHEETS: sums over cells -/
def smN (f : Nat → Nat) : Nat → Nat
  | 0 => 0
  | n + 1 => smN f n + f n
theorem smN_ext {f g : Nat → Nat} {n : Nat} (h : ∀ i, i < n → f i = g i) : smN f n = smN g n := by
  induction n with
  | zero => rfl
  | succ n ih => show smN f n + f n = smN g n + g n; rw [ih (fun i hi => h i (by omega)), h n (by omega)]
theorem smN_zero (n : Nat) : smN (fun _ => 0) n = 0 := by
  induction n with
  | zero => rfl
  | succ n ih => show smN (fun _ => 0) n + 0 = 0; rw [ih]
theorem smN_add (f g : Nat → Nat) (n : Nat) : smN (fun i => f i + g i) n = smN f n + smN g n := by
  induction n with
  | zero => rfl
  | succ n ih => show smN (fun i => f i + g i) n + (f n + g n) = smN f n + f n + (smN g n + g n); rw [ih]; omega
theorem smN_more {f : Nat → Nat} {w : Nat} (h : ∀ i, w ≤ i → f i = 0) {n : Nat} (hn : w ≤ n) : smN f n = smN f w := by
  induction n with
  | zero => rw [Nat.le_zero.mp hn]
  | succ n ih =>
    by_cases q : w = n + 1
    · rw [q]
    · show smN f n + f n = smN f w
      rw [ih (by omega), h n (by omega), Nat.add_zero]
theorem smN_swap (f : Nat → Nat → Nat) (n m : Nat) : smN (fun y => smN (f y) m) n = smN (fun x => smN (fun y => f y x) n) m := by
  induction n with
  | zero => show 0 = smN (fun _ => 0) m; rw [smN_zero]
  | succ n ih => show smN (fun y => smN (f y) m) n + smN (f n) m = smN (fun x => smN (fun y => f y x) n + f n x) m; rw [ih, smN_add]
theorem smN_le (f : Nat → Nat) (k n : Nat) (h : ∀ i, i < n → f i ≤ k) : smN f n ≤ n * k := by
  induction n with
  | zero => show 0 ≤ 0 * k; omega
  | succ n ih => show smN f n + f n ≤ (n + 1) * k; rw [Nat.succ_mul]; exact Nat.add_le_add (ih (fun i hi => h i (by omega))) (h n (by omega))
/-- a cut between two -/
def cutN (a b : Nat) : Nat := if a = 0 then 0 else if b = 0 then 1 else if a < b then 1 else 0
def prvN (p : Nat → Nat) (x : Nat) : Nat := if x = 0 then 0 else p (x - 1)
theorem cutN_0 (b : Nat) : cutN 0 b = 0 := rfl
theorem cutN_ne (a b : Nat) : (if a = b then 0 else 1) = cutN a b + cutN b a := by
  unfold cutN
  repeat' split
  all_goals omega
theorem cut_line (p : Nat → Nat) (n : Nat) : smN (fun x => if p x = prvN p x then 0 else 1) (n + 1) = smN (fun x => cutN (p x) (prvN p x)) (n + 1) + smN (fun x => cutN (p x) (p (x + 1))) n := by
  induction n with
  | zero =>
    show 0 + (if p 0 = 0 then 0 else 1) = 0 + cutN (p 0) 0 + 0
    rw [cutN_ne, cutN_0]
    omega
  | succ n ih =>
    show smN (fun x => if p x = prvN p x then 0 else 1) (n + 1) + (if p (n + 1) = p n then 0 else 1) = smN (fun x => cutN (p x) (prvN p x)) (n + 1) + cutN (p (n + 1)) (p n) + (smN (fun x => cutN (p x) (p (x + 1))) n + cutN (p n) (p (n + 1)))
    rw [ih, cutN_ne]
    omega
theorem cut_row {p : Nat → Nat} {w : Nat} (h : ∀ x, w ≤ x → p x = 0) {n : Nat} (hn : w ≤ n) : smN (fun x => if p x = prvN p x then 0 else 1) (w + 1) = smN (fun x => cutN (p x) (p (x + 1)) + cutN (p x) (prvN p x)) n := by
  rw [cut_line, smN_add]
  rw [smN_more (f := fun x => cutN (p x) (p (x + 1))) (w := w) (fun i hi => by show cutN (p i) (p (i + 1)) = 0; rw [h i hi, cutN_0]) hn]
  rw [smN_more (f := fun x => cutN (p x) (prvN p x)) (w := w) (fun i hi => by show cutN (p i) (prvN p i) = 0; rw [h i hi, cutN_0]) hn]
  rw [smN_more (f := fun x => cutN (p x) (prvN p x)) (w := w) (n := w + 1) (fun i hi => by show cutN (p i) (prvN p i) = 0; rw [h i hi, cutN_0]) (by omega)]
  omega
theorem cut_all {o : Nat → Nat → Nat} {w h : Nat} (hx : ∀ x y, w ≤ x → o x y = 0) (hy : ∀ x y, h ≤ y → o x y = 0) {n m : Nat} (hn : h ≤ n) (hm : w ≤ m) : smN (fun y => smN (fun x => (if o x y = prvN (fun x => o x y) x then 0 else 1) + (if o x y = prvN (o x) y then 0 else 1)) (w + 1)) (h + 1) = smN (fun y => smN (fun x => cutN (o x y) (o (x + 1) y) + cutN (o x y) (prvN (fun x => o x y) x) + (cutN (o x y) (o x (y + 1)) + cutN (o x y) (prvN (o x) y))) m) n := by
  rw [smN_ext (g := fun y => smN (fun x => if o x y = prvN (fun x => o x y) x then 0 else 1) (w + 1) + smN (fun x => if o x y = prvN (o x) y then 0 else 1) (w + 1)) (fun y _ => smN_add _ _ _), smN_add]
  rw [smN_ext (n := n) (f := fun y => smN (fun x => cutN (o x y) (o (x + 1) y) + cutN (o x y) (prvN (fun x => o x y) x) + (cutN (o x y) (o x (y + 1)) + cutN (o x y) (prvN (o x) y))) m) (g := fun y => smN (fun x => cutN (o x y) (o (x + 1) y) + cutN (o x y) (prvN (fun x => o x y) x)) m + smN (fun x => cutN (o x y) (o x (y + 1)) + cutN (o x y) (prvN (o x) y)) m) (fun y _ => smN_add _ _ _), smN_add]
  congr 1
  · rw [smN_ext (fun y _ => cut_row (p := fun x => o x y) (w := w) (n := m) (fun x q => hx x y q) hm)]
    have z : ∀ y, h ≤ y → smN (fun x => cutN (o x y) (o (x + 1) y) + cutN (o x y) (prvN (fun x => o x y) x)) m = 0 := fun y q => by
      rw [smN_ext (g := fun _ => 0) (fun x _ => by show cutN (o x y) (o (x + 1) y) + cutN (o x y) (prvN (fun x => o x y) x) = 0; rw [hy x y q, cutN_0, cutN_0]), smN_zero]
    rw [smN_more (w := h) z (n := h + 1) (by omega), smN_more (w := h) z hn]
  · rw [smN_swap (fun y x => if o x y = prvN (o x) y then 0 else 1), smN_swap (fun y x => cutN (o x y) (o x (y + 1)) + cutN (o x y) (prvN (o x) y))]
    rw [smN_ext (fun x _ => cut_row (p := o x) (w := h) (n := n) (fun y q => hy x y q) hn)]
    have z : ∀ x, w ≤ x → smN (fun y => cutN (o x y) (o x (y + 1)) + cutN (o x y) (prvN (o x) y)) n = 0 := fun x q => by
      rw [smN_ext (g := fun _ => 0) (fun y _ => by show cutN (o x y) (o x (y + 1)) + cutN (o x y) (prvN (o x) y) = 0; rw [hx x y q, cutN_0, cutN_0]), smN_zero]
    rw [smN_more (w := w) z (n := w + 1) (by omega), smN_more (w := w) z hm]
/-- a walk over cells that minds only what is on a piece -/
def wkx (f : Nat → Nat → Nat → Nat) (y : Nat) : Nat → Nat → Nat
  | 0, a => a
  | x + 1, a => f y x (wkx f y x a)
def wky (f : Nat → Nat → Nat → Nat) (m : Nat) : Nat → Nat → Nat
  | 0, a => a
  | y + 1, a => wkx f y m (wky f m y a)
theorem wkx_more {f : Nat → Nat → Nat → Nat} {y w : Nat} (h : ∀ x a, w ≤ x → f y x a = a) {n : Nat} (hn : w ≤ n) (a : Nat) : wkx f y n a = wkx f y w a := by
  induction n with
  | zero => rw [Nat.le_zero.mp hn]
  | succ n ih =>
    by_cases q : w = n + 1
    · rw [q]
    · show f y n (wkx f y n a) = wkx f y w a
      rw [ih (by omega), h n _ (by omega)]
theorem wky_w {f : Nat → Nat → Nat → Nat} {w m : Nat} (h : ∀ y x a, w ≤ x → f y x a = a) (hm : w ≤ m) (n a : Nat) : wky f m n a = wky f w n a := by
  induction n with
  | zero => rfl
  | succ n ih => show wkx f n m (wky f m n a) = wkx f n w (wky f w n a); rw [ih, wkx_more (h n) hm]
theorem wky_more {f : Nat → Nat → Nat → Nat} {h w : Nat} (g : ∀ y x a, h ≤ y → f y x a = a) {n : Nat} (hn : h ≤ n) (a : Nat) : wky f w n a = wky f w h a := by
  induction n with
  | zero => rw [Nat.le_zero.mp hn]
  | succ n ih =>
    by_cases q : h = n + 1
    · rw [q]
    · show wkx f n w (wky f w n a) = wky f w h a
      rw [ih (by omega), wkx_more (w := 0) (fun x a _ => g n x a (by omega)) (Nat.zero_le _)]
      rfl
theorem wkx_sm (c : Nat → Nat → Nat) (y n a : Nat) : wkx (fun y x a => a + c x y) y n a = a + smN (fun x => c x y) n := by
  induction n with
  | zero => rfl
  | succ n ih => show wkx (fun y x a => a + c x y) y n a + c n y = a + (smN (fun x => c x y) n + c n y); rw [ih]; omega
theorem wky_sm (c : Nat → Nat → Nat) (m n : Nat) : wky (fun y x a => a + c x y) m n 0 = smN (fun y => smN (fun x => c x y) m) n := by
  induction n with
  | zero => rfl
  | succ n ih => show wkx (fun y x a => a + c x y) n m (wky (fun y x a => a + c x y) m n 0) = smN (fun y => smN (fun x => c x y) m) n + smN (fun x => c x n) m; rw [wkx_sm, ih]
