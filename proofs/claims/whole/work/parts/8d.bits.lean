/-! BITS counted, as the class's library does -/
def bcS (a : Int32) (n : Int32) : Int32 := (a.toUInt32 >>> (n.toUInt32 &&& Int32.toUInt32 31)).toInt32
def bcI (x : Int32) : Int32 :=
  let a := x - (bcS x 1 &&& 1431655765)
  let b := (a &&& 858993459) + (bcS a 2 &&& 858993459)
  let c := (b + bcS b 4) &&& 252645135
  let e := c + bcS c 8
  let f := e + bcS e 16
  f &&& 63
theorem F361_0 (d : Nat) (x : Int32) (S : jS) : jv d 361 0 [some (.int x)] [] S = some (some (.int (bcI x)), S) := (jblk_eq jTT jMM [] d mq_361 42 _ _ _ _).trans rfl
theorem and_split (x m : Nat) : x &&& m = (x % 256 &&& m % 256) + 256 * (x / 256 &&& m / 256) := by
  have h1 : (x &&& m) % 2 ^ 8 = (x % 2 ^ 8) &&& (m % 2 ^ 8) := Nat.and_mod_two_pow
  have h2 : (x &&& m) / 2 ^ 8 = (x / 2 ^ 8) &&& (m / 2 ^ 8) := Nat.and_div_two_pow
  have h3 := Nat.mod_add_div (x &&& m) (2 ^ 8)
  rw [h1, h2] at h3
  exact h3.symm
theorem and3 (x0 x1 x2 m0 m1 m2 : Nat) (h0 : x0 < 256) (h1 : x1 < 256) (k0 : m0 < 256) (k1 : m1 < 256) : (x0 + 256 * x1 + 65536 * x2) &&& (m0 + 256 * m1 + 65536 * m2) = (x0 &&& m0) + 256 * (x1 &&& m1) + 65536 * (x2 &&& m2) := by
  rw [and_split, show (x0 + 256 * x1 + 65536 * x2) % 256 = x0 by omega, show (m0 + 256 * m1 + 65536 * m2) % 256 = m0 by omega, show (x0 + 256 * x1 + 65536 * x2) / 256 = x1 + 256 * x2 by omega, show (m0 + 256 * m1 + 65536 * m2) / 256 = m1 + 256 * m2 by omega, and_split (x1 + 256 * x2), show (x1 + 256 * x2) % 256 = x1 by omega, show (m1 + 256 * m2) % 256 = m1 by omega, show (x1 + 256 * x2) / 256 = x2 by omega, show (m1 + 256 * m2) / 256 = m2 by omega]
  omega
def bcN (n : Nat) : Nat :=
  let a := n - ((n / 2) &&& 1431655765)
  let b := (a &&& 858993459) + ((a / 4) &&& 858993459)
  let c := (b + b / 16) &&& 252645135
  let e := c + c / 256
  let f := e + e / 65536
  f &&& 63
def bA (b : Nat) : Nat := b - ((b / 2) &&& 85)
def bB (b : Nat) : Nat := (b &&& 51) + ((b / 4) &&& 51)
def bC (b : Nat) : Nat := (b + b / 16) &&& 15
def pop8 (b : Nat) : Nat := smN (fun u => b / 2 ^ u % 2) 8
theorem d1 : ∀ b, b < 256 → ∀ z, z < 2 → ((b / 2 + 128 * z) &&& 85) = ((b / 2) &&& 85) ∧ ((b / 2) &&& 85) ≤ b ∧ ((b / 2) &&& 21845) = ((b / 2) &&& 85) := by decide +kernel
theorem d2 : ∀ b, b < 256 → ∀ z, z < 4 → ((b / 4 + 64 * z) &&& 51) = ((b / 4) &&& 51) ∧ ((b / 4) &&& 13107) = ((b / 4) &&& 51) ∧ (b &&& 13107) = (b &&& 51) := by decide +kernel
theorem d3 : ∀ b, b < 69 → ∀ z, z < 5 → ((b + b / 16 + 16 * z) &&& 15) = bC b ∧ ((b + b / 16) &&& 3855) = bC b := by decide +kernel
theorem d4 : ∀ b, b < 256 → bA b < 256 ∧ bB (bA b) < 69 ∧ bB (bA b) % 16 < 5 ∧ bC (bB (bA b)) = pop8 b ∧ pop8 b ≤ 8 := by decide +kernel
theorem d5 : ∀ x, x < 25 → ∀ y, y < 25 → ∀ z, z < 9 → (x + 256 * y + 65536 * z) &&& 63 = x := by decide +kernel
theorem bcN_eq {n0 n1 n2 : Nat} (h0 : n0 < 256) (h1 : n1 < 256) (h2 : n2 < 256) : bcN (n0 + 256 * n1 + 65536 * n2) = pop8 n0 + pop8 n1 + pop8 n2 := by
  obtain ⟨a0, b0, c0, p0, q0⟩ := d4 n0 h0
  obtain ⟨a1, b1, c1, p1, q1⟩ := d4 n1 h1
  obtain ⟨a2, b2, c2, p2, q2⟩ := d4 n2 h2
  have e1 : (n0 + 256 * n1 + 65536 * n2) - (((n0 + 256 * n1 + 65536 * n2) / 2) &&& 1431655765) = bA n0 + 256 * bA n1 + 65536 * bA n2 := by
    rw [show (n0 + 256 * n1 + 65536 * n2) / 2 = (n0 / 2 + 128 * (n1 % 2)) + 256 * (n1 / 2 + 128 * (n2 % 2)) + 65536 * (n2 / 2) by omega, show 1431655765 = 85 + 256 * 85 + 65536 * 21845 from rfl, and3 _ _ _ _ _ _ (by omega) (by omega) (by decide) (by decide), (d1 n0 h0 (n1 % 2) (by omega)).1, (d1 n1 h1 (n2 % 2) (by omega)).1, (d1 n2 h2 0 (by decide)).2.2]
    have u0 := (d1 n0 h0 0 (by decide)).2.1
    have u1 := (d1 n1 h1 0 (by decide)).2.1
    have u2 := (d1 n2 h2 0 (by decide)).2.1
    unfold bA
    omega
  have e2 : ((bA n0 + 256 * bA n1 + 65536 * bA n2) &&& 858993459) + (((bA n0 + 256 * bA n1 + 65536 * bA n2) / 4) &&& 858993459) = bB (bA n0) + 256 * bB (bA n1) + 65536 * bB (bA n2) := by
    rw [show (bA n0 + 256 * bA n1 + 65536 * bA n2) / 4 = (bA n0 / 4 + 64 * (bA n1 % 4)) + 256 * (bA n1 / 4 + 64 * (bA n2 % 4)) + 65536 * (bA n2 / 4) by omega, show 858993459 = 51 + 256 * 51 + 65536 * 13107 from rfl, and3 _ _ _ _ _ _ a0 a1 (by decide) (by decide), and3 _ _ _ _ _ _ (by omega) (by omega) (by decide) (by decide), (d2 _ a0 (bA n1 % 4) (by omega)).1, (d2 _ a1 (bA n2 % 4) (by omega)).1, (d2 _ a2 0 (by decide)).2.1, (d2 _ a2 0 (by decide)).2.2]
    unfold bB
    omega
  have e3 : ((bB (bA n0) + 256 * bB (bA n1) + 65536 * bB (bA n2)) + (bB (bA n0) + 256 * bB (bA n1) + 65536 * bB (bA n2)) / 16) &&& 252645135 = bC (bB (bA n0)) + 256 * bC (bB (bA n1)) + 65536 * bC (bB (bA n2)) := by
    rw [show (bB (bA n0) + 256 * bB (bA n1) + 65536 * bB (bA n2)) + (bB (bA n0) + 256 * bB (bA n1) + 65536 * bB (bA n2)) / 16 = (bB (bA n0) + bB (bA n0) / 16 + 16 * (bB (bA n1) % 16)) + 256 * (bB (bA n1) + bB (bA n1) / 16 + 16 * (bB (bA n2) % 16)) + 65536 * (bB (bA n2) + bB (bA n2) / 16) by omega, show 252645135 = 15 + 256 * 15 + 65536 * 3855 from rfl, and3 _ _ _ _ _ _ (by omega) (by omega) (by decide) (by decide), (d3 _ b0 _ c1).1, (d3 _ b1 _ c2).1, (d3 _ b2 0 (by decide)).2]
  unfold bcN
  dsimp only
  rw [e1, e2, e3, p0, p1, p2]
  rw [show (pop8 n0 + 256 * pop8 n1 + 65536 * pop8 n2) + (pop8 n0 + 256 * pop8 n1 + 65536 * pop8 n2) / 256 + ((pop8 n0 + 256 * pop8 n1 + 65536 * pop8 n2) + (pop8 n0 + 256 * pop8 n1 + 65536 * pop8 n2) / 256) / 65536 = (pop8 n0 + pop8 n1 + pop8 n2) + 256 * (pop8 n1 + pop8 n2) + 65536 * pop8 n2 by omega]
  exact d5 _ (by omega) _ (by omega) _ (by omega)
