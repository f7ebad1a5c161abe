/-! SEA: U stays within a long -/
section SEBE
variable {d e : Nat} {I J : Nat → Nat → Int32} {L L' : Nat → Nat → Int64} {m : Nat → Int32} {o : Nat}
theorem sZ_cmp {f g : Nat → Int} {A B : Int} {a : Nat} : ∀ {n : Nat}, (∀ i, a ≤ i → i < a + n → A * g i ≤ f i ∧ f i ≤ B * g i) → A * sZ g a n ≤ sZ f a n ∧ sZ f a n ≤ B * sZ g a n := by
  intro n
  induction n with
  | zero => intro _; show A * 0 ≤ 0 ∧ 0 ≤ B * 0; omega
  | succ n ih =>
    intro h
    have h1 := ih (fun i i1 i2 => h i i1 (by omega))
    have h2 := h (a + n) (by omega) (by omega)
    show A * (sZ g a n + g (a + n)) ≤ sZ f a n + f (a + n) ∧ sZ f a n + f (a + n) ≤ B * (sZ g a n + g (a + n))
    rw [Int.mul_add, Int.mul_add]
    omega
theorem sI_cmp {f g : Int → Int} {B lo : Int} : ∀ {n : Nat}, (∀ y, lo ≤ y → y < lo + n → 0 ≤ f y ∧ f y ≤ B * g y) → 0 ≤ sI f lo n ∧ sI f lo n ≤ B * sI g lo n := by
  intro n
  induction n with
  | zero => intro _; show (0 : Int) ≤ 0 ∧ (0 : Int) ≤ B * 0; omega
  | succ n ih =>
    intro h
    have h1 := ih (fun y y1 y2 => h y y1 (by omega))
    have h2 := h (lo + n) (by omega) (by omega)
    show 0 ≤ sI f lo n + f (lo + n) ∧ sI f lo n + f (lo + n) ≤ B * (sI g lo n + g (lo + n))
    rw [Int.mul_add]
    omega
theorem sR_cmp {f g : Int → Int} {B a b : Int} (h : ∀ y, a ≤ y → y < b → 0 ≤ f y ∧ f y ≤ B * g y) : 0 ≤ sR f a b ∧ sR f a b ≤ B * sR g a b := sI_cmp (fun y y1 y2 => h y y1 (by omega))
theorem m15 {x : Int} (hx : 0 ≤ x) {k : Nat} (hk : k < 16) : -15 * x ≤ x * (2 * k - 15) ∧ x * (2 * k - 15) ≤ 15 * x := by
  have : k = 0 ∨ k = 1 ∨ k = 2 ∨ k = 3 ∨ k = 4 ∨ k = 5 ∨ k = 6 ∨ k = 7 ∨ k = 8 ∨ k = 9 ∨ k = 10 ∨ k = 11 ∨ k = 12 ∨ k = 13 ∨ k = 14 ∨ k = 15 := by omega
  rcases this with z | z | z | z | z | z | z | z | z | z | z | z | z | z | z | z <;> subst z <;> omega
theorem VW2_b (h : mQ m I J) (hr : ∀ p, p < 16 → spR m p) (ho : opKd m o) (a b c : Int) : -15 * VW m o 0 a b c ≤ VW m o 2 a b c ∧ VW m o 2 a b c ≤ 15 * VW m o 0 a b c := by
  refine sZ_cmp (fun s _ hs => sZ_cmp (fun k _ hk => ?_))
  exact m15 (colF_b h hr ho (by omega) (by omega) a b c).1 (by omega)
theorem VW3_b (h : mQ m I J) (hr : ∀ p, p < 16 → spR m p) (ho : opKd m o) (a b c : Int) : 0 * VW m o 0 a b c ≤ VW m o 3 a b c ∧ VW m o 3 a b c ≤ 256000 * VW m o 0 a b c := by
  refine sZ_cmp (fun s _ hs => sZ_cmp (fun k _ hk => ?_))
  obtain ⟨l0, l1, l2, l3⟩ := h.lo (i := 16 * s + k) (by omega)
  rw [Int.zero_mul]
  refine sR_cmp (fun y y1 y2 => ?_)
  have hy : y < 128000 := by revert y2; split <;> omega
  have f0 := (pF_nn h hr ho (s := s) (k := k) (by omega) (by omega) y).1
  constructor
  · exact Int.mul_nonneg f0 (by omega)
  · rw [Int.mul_comm 256000]
    exact Int.mul_le_mul_of_nonneg_left (by omega) f0
theorem mQ.w3 (h : mQ m I J) {k : Nat} (hk : k < 24) : -15 ≤ mv m (283 + k * 5) ∧ mv m (283 + k * 5) ≤ 15 := by
  have h1 := (h.2.2.1 (283 + k * 5) (by omega)).1 3 k 3 (by decide) hk (by decide) (by show 283 + k * 5 = 280 + k * 5 + 3; omega)
  unfold mbv at h1
  rw [show leastv 3 3 = -15 from rfl, show mostv 3 3 = 15 from rfl] at h1
  by_cases h2 : m (283 + k * 5) < -15
  · rw [if_pos h2] at h1; exact absurd h1 (by decide)
  rw [if_neg h2] at h1
  by_cases h3 : 15 < m (283 + k * 5)
  · rw [if_pos h3] at h1; exact absurd h1 (by decide)
  have e1 : (-15 : Int32).toInt = -15 := by decide
  have e2 : (15 : Int32).toInt = 15 := by decide
  unfold mv
  rw [Int32.lt_iff_toInt_lt] at h2 h3
  omega
theorem fW2_b (h : mQ m I J) (hy : ∀ k, k < 24 → -15 ≤ mv m (283 + k * 5) ∧ mv m (283 + k * 5) ≤ 15) : -15 * fW m 0 ≤ fW m 2 ∧ fW m 2 ≤ 15 * fW m 0 := by
  refine sZ_cmp (fun k _ hk => sZ_cmp (fun s _ _ => ?_))
  obtain ⟨w, f1, f2, f4, w1, b1, b2, b4, n0, n1, n2, n4⟩ := h.wt (k := k) (by omega)
  have y1 := hy k (by omega)
  unfold fWt
  simp only [if_true]
  rw [if_neg (by decide), if_neg (by decide), mv_n n0 (by omega)]
  constructor
  · rw [Int.mul_comm (-15)]
    exact Int.mul_le_mul_of_nonneg_left y1.1 (by omega)
  · rw [Int.mul_comm 15]
    exact Int.mul_le_mul_of_nonneg_left y1.2 (by omega)
theorem fW3_b (h : mQ m I J) : 0 * fW m 0 ≤ fW m 3 ∧ fW m 3 ≤ 256000 * fW m 0 := by
  refine sZ_cmp (fun k _ hk => sZ_cmp (fun s _ _ => ?_))
  obtain ⟨w, f1, f2, f4, w1, b1, b2, b4, n0, n1, n2, n4⟩ := h.wt (k := k) (by omega)
  unfold fWt
  simp only [if_true]
  rw [if_neg (by decide), if_neg (by decide), if_neg (by decide), mv_n n0 (by omega), mv_n n4 (by omega), Int.zero_mul, Int.mul_assoc (1024 * (w : Int)) 128]
  constructor
  · exact Int.mul_nonneg (by omega) (by omega)
  · rw [Int.mul_comm 256000]
    exact Int.mul_le_mul_of_nonneg_left (by omega) (by omega)
theorem LW2_b (h : mQ m I J) {p : Nat} (hp : p < 16) (a b c : Int) : -15 * LW m p 0 a b c ≤ LW m p 2 a b c ∧ LW m p 2 a b c ≤ 15 * LW m p 0 a b c := by
  obtain ⟨x1, x2, x3, x4, -⟩ := h.sp (q := p + 1) (by omega)
  refine sZ_cmp (fun s _ hs => sZ_cmp (fun k _ hk => ?_))
  have := (gC0_b h hp a b c s k).1
  have e0 : gC (hLo m) (hHi m) (hFl m) (hRf m) (fun _ => 1) a b c 2 (p + 1) s k = gC (hLo m) (hHi m) (hFl m) (hRf m) (fun _ => 1) a b c 0 (p + 1) s k * (2 * k - 15) := by
    unfold gC; rw [if_neg (by decide), if_neg (by decide), if_pos rfl, if_pos rfl, Int.mul_one, Int.mul_one]
  rw [e0]
  exact m15 this (by omega)
theorem LW3_b (h : mQ m I J) {p : Nat} (hp : p < 16) (a b c : Int) : 0 * LW m p 0 a b c ≤ LW m p 3 a b c ∧ LW m p 3 a b c ≤ 256000 * LW m p 0 a b c := by
  obtain ⟨x1, x2, x3, x4, x5, x6, x7, x8⟩ := h.sp (q := p + 1) (by omega)
  have x9 : hRf m (p + 1) ≤ 128000 := by
    obtain ⟨f0, f1, f2, f3, f4, f5, f6, a0, a1, a2, a3, a4, a5, a6, m0, m1, m2, m3, m4, m5, m6⟩ := h.space hp
    unfold hRf; rw [if_neg (by omega), Nat.add_sub_cancel, mv_n m6 (by omega)]; omega
  refine sZ_cmp (fun s _ hs => sZ_cmp (fun k _ hk => ?_))
  unfold gC
  simp only [if_true]
  rw [if_neg (by decide), if_neg (by decide), if_neg (by decide), Int.mul_one, Int.mul_one, Int.zero_mul]
  have l0 : 0 ≤ wL (hLo m (16 * s + k)) (hFl m (p + 1)) := by unfold wL; split <;> omega
  have u0 : wU (hHi m (16 * s + k)) (hRf m (p + 1)) (plY a b c s k) ≤ 128000 := by unfold wU; (repeat' split) <;> omega
  generalize wL (hLo m (16 * s + k)) (hFl m (p + 1)) = l at *
  generalize wU (hHi m (16 * s + k)) (hRf m (p + 1)) (plY a b c s k) = u at *
  unfold wM wP
  by_cases z : l < u
  · rw [if_pos z, if_pos z]
    constructor
    · exact Int.mul_nonneg (by omega) (by omega)
    · rw [Int.mul_comm 256000]
      exact Int.mul_le_mul_of_nonneg_left (by omega) (by omega)
  · rw [if_neg z, if_neg z]; omega
/-- a liquid's share -/
theorem gWW_b (h : mQ m I J) {p : Nat} (hp : p < 16) {b c : Int} (hb : -2048 ≤ b ∧ b ≤ 2048) (hc : -2048 ≤ c ∧ c ≤ 2048) : (-15 * gWT m o p ≤ gWW m o 2 b c p ∧ gWW m o 2 b c p ≤ 15 * gWT m o p) ∧ 0 * gWT m o p ≤ gWW m o 3 b c p ∧ gWW m o 3 b c p ≤ 256000 * gWT m o p := by
  obtain ⟨x, y, x1, y1, n0, n1⟩ := h.fill hp
  unfold gWT gWW
  by_cases z : hasL m o p
  · simp only [if_pos z]
    obtain ⟨-, -, -, le⟩ := liq_r (e := 0) (L := fun _ _ => 0) h hp hb hc
    have a2 := LW2_b h hp (liqL m p b c) b c
    have a3 := LW3_b h hp (liqL m p b c) b c
    have a0 := LW_b h hp (liqL m p b c) b c
    have yn : (0 : Int) ≤ mv m (401 + p * 2) := by rw [mv_n n1 (by omega)]; omega
    generalize LW m p 0 (liqL m p b c) b c = L0 at *
    generalize LW m p 2 (liqL m p b c) b c = L2 at *
    generalize LW m p 3 (liqL m p b c) b c = L3 at *
    generalize mv m (401 + p * 2) = t at *
    generalize 64 * mv m (400 + p * 2) = q at *
    have k2 : L2 * t ≤ (15 * q) * t := Int.mul_le_mul_of_nonneg_right (by omega) yn
    have k1 : (-15 * q) * t ≤ L2 * t := Int.mul_le_mul_of_nonneg_right (by omega) yn
    have k4 : L3 * t ≤ (256000 * q) * t := Int.mul_le_mul_of_nonneg_right (by omega) yn
    have k3 : 0 ≤ L3 * t := Int.mul_nonneg (by omega) yn
    rw [Int.mul_assoc] at k1 k2 k4
    omega
  · simp only [if_neg z]; omega
/-- the bounds of U -/
theorem tU_b (h : mQ m I J) (hr : ∀ p, p < 16 → spR m p) (ho : opKd m o) (hW : WT m o < VW m o 0 200000 0 0) {b c : Int} (hb : -2048 ≤ b ∧ b ≤ 2048) (hc : -2048 ≤ c ∧ c ≤ 2048) (hl : VW m o 0 (seaL m o (WT m o) b c) b c ≤ WT m o) (hy : ∀ k, k < 24 → -15 ≤ mv m (283 + k * 5) ∧ mv m (283 + k * 5) ≤ 15) (h1 : 0 ≤ mv m 1 ∧ mv m 1 ≤ 500) : tU m o b c ≠ -9223372036854775808 := by
  have w0 := VW_b h hr ho 200000 0 0
  have v0 := VW_b h hr ho (seaL m o (WT m o) b c) b c
  have v2 := VW2_b h hr ho (seaL m o (WT m o) b c) b c
  have v3 := VW3_b h hr ho (seaL m o (WT m o) b c) b c
  have f2 := fW2_b h hy
  have f3 := fW3_b (m := m) h
  have g2 := sZ_cmp (f := gWW m o 2 b c) (g := gWT m o) (A := -15) (B := 15) (a := 0) (n := 16) (fun p _ hp => (gWW_b h (by omega) hb hc).1)
  have g3 := sZ_cmp (f := gWW m o 3 b c) (g := gWT m o) (A := 0) (B := 256000) (a := 0) (n := 16) (fun p _ hp => (gWW_b h (by omega) hb hc).2)
  have e0 : WT m o = fW m 0 + sZ (gWT m o) 0 16 := rfl
  have x2 : -15728640000 ≤ XA m o 2 b c ∧ XA m o 2 b c ≤ 15728640000 := by unfold XA VA WW; omega
  have x3 : -134217728000000 ≤ XA m o 3 b c ∧ XA m o 3 b c ≤ 134217728000000 := by unfold XA VA WW; omega
  have l2 : 0 ≤ mv m 1 * mv m 1 ∧ mv m 1 * mv m 1 ≤ 500 * 500 := ⟨Int.mul_nonneg h1.1 h1.1, Int.mul_le_mul h1.2 h1.2 h1.1 (by omega)⟩
  have p2 : -(512000000 * 15728640000) ≤ 2048 * mv m 1 * mv m 1 * XA m o 2 b c ∧ 2048 * mv m 1 * mv m 1 * XA m o 2 b c ≤ 512000000 * 15728640000 := by
    rw [Int.mul_assoc 2048]
    generalize hq : mv m 1 * mv m 1 = q at *
    have q1 : 0 ≤ 2048 * q := by omega
    have q2 : 2048 * q ≤ 512000000 := by omega
    have u1 := Int.mul_le_mul_of_nonneg_left x2.2 q1
    have u2 := Int.mul_le_mul_of_nonneg_left x2.1 q1
    have u3 : 2048 * q * 15728640000 ≤ 512000000 * 15728640000 := Int.mul_le_mul_of_nonneg_right q2 (by omega)
    omega
  have p3 : -(2048 * 134217728000000) ≤ c * XA m o 3 b c ∧ c * XA m o 3 b c ≤ 2048 * 134217728000000 := by
    generalize XA m o 3 b c = q at *
    rcases Int.le_total 0 c with hc0 | hc0
    · have u1 := Int.mul_le_mul_of_nonneg_left x3.2 hc0
      have u2 := Int.mul_le_mul_of_nonneg_left x3.1 hc0
      omega
    · have u1 := Int.mul_le_mul_of_nonneg_left x3.2 (show 0 ≤ -c by omega)
      have u2 := Int.mul_le_mul_of_nonneg_left x3.1 (show 0 ≤ -c by omega)
      rw [Int.neg_mul c q] at u1 u2
      omega
  intro y
  have := congrArg Int64.toInt y
  unfold tU at this
  rw [lI_toInt (by omega) (by omega), show (-9223372036854775808 : Int64).toInt = -9223372036854775808 by decide] at this
  omega
end SEBE
