/-! SEA: what a point of a column weighs with some spaces open -/
section SEAS
variable {d e : Nat} {I J : Nat → Nat → Int32} {L L' : Nat → Nat → Int64} {pa pb pu pw : Option Nat} {m : Nat → Int32} {o : Nat}
/-- the sea's set of blocks -/
def sbO (o q : Nat) : Bool := (2 * o + 1).testBit q
theorem sbO_0 (o : Nat) : sbO o 0 = true := by
  unfold sbO; rw [Nat.testBit_zero]; simp
theorem sbO_s (o p : Nat) : sbO o (p + 1) = o.testBit p := by
  unfold sbO; rw [Nat.testBit_succ, show (2 * o + 1) / 2 = o by omega]
/-- what a point of each block adds -/
def hBt (m : Nat → Int32) (o q : Nat) : Int := if q = 0 then 16 else if o.testBit (q - 1) = true then mv m (159 + (q - 1) * 8) - 16 else 1
/-- which open blocks hold a column -/
abbrev oC (m : Nat → Int32) (o s k q : Nat) : Prop := sbO o q = true ∧ inB (hSF m) (hST m) (hCF m) (hCT m) q s k
def pFo (m : Nat → Int32) (o s k : Nat) (y : Int) : Int := ptB (oC m o s k) (hFl m) (hRf m) (hBt m o) y
/-- an open space holds a column -/
def oA (m : Nat → Int32) (o s k p : Nat) : Prop := o.testBit p = true ∧ mNa m (153 + p * 8) ≤ s ∧ s ≤ mNa m (154 + p * 8) ∧ mNa m (155 + p * 8) ≤ k ∧ k ≤ mNa m (156 + p * 8)
theorem oA_C (s k p : Nat) : oC m o s k (p + 1) ↔ oA m o s k p := by
  unfold oC oA inB hSF hST hCF hCT
  rw [sbO_s, if_neg (by omega), if_neg (by omega), if_neg (by omega), if_neg (by omega), Nat.add_sub_cancel]
  constructor
  · rintro ⟨a, ⟨b, c⟩, e, f⟩
    exact ⟨a, b, by omega, e, by omega⟩
  · rintro ⟨a, b, c, e, f⟩
    exact ⟨a, ⟨b, by omega⟩, e, by omega⟩
/-- a height lies in a space -/
def hIn (m : Nat → Int32) (p : Nat) (y : Int) : Prop := 64 * mv m (157 + p * 8) ≤ y ∧ y < 64 * mv m (158 + p * 8)
/-- the open spaces are spaces -/
def opKd (m : Nat → Int32) (o : Nat) : Prop := ∀ p, p < 16 → o.testBit p = true → m (152 + p * 8) ≠ 0
theorem sZ_one {f : Nat → Int} {a p : Nat} : ∀ {n : Nat}, a ≤ p → p < a + n → (∀ i, a ≤ i → i < a + n → i ≠ p → f i = 0) → sZ f a n = f p := by
  intro n
  induction n with
  | zero => intro h1 h2; omega
  | succ n ih =>
    intro h1 h2 h
    show sZ f a n + f (a + n) = f p
    by_cases z : p = a + n
    · rw [z, sZ_cg (g := fun _ => 0) (fun i i1 i2 => h i i1 (by omega) (by omega)), sZ_nul]; omega
    · rw [ih h1 (by omega) (fun i i1 i2 => h i i1 (by omega)), h (a + n) (by omega) (by omega) (fun y => z y.symm)]; omega
/-- no two open spaces hold a point -/
theorem o_one (h : mQ m I J) (hr : ∀ p, p < 16 → spR m p) (hk : opKd m o) {s k : Nat} {y : Int} {p q : Nat} (hp : p < 16) (hq : q < 16) (a1 : oA m o s k p) (b1 : hIn m p y) (a2 : oA m o s k q) (b2 : hIn m q y) : p = q := by
  have key : ∀ p q, p < 16 → q < p → oA m o s k p → hIn m p y → oA m o s k q → hIn m q y → False := by
    intro p q hp hq a1 b1 a2 b2
    obtain ⟨f0, f1, f2, f3, f4, f5, f6, -, -, -, -, -, -, -, m0, m1, m2, m3, m4, m5, m6⟩ := h.space hp
    obtain ⟨g0, g1, g2, g3, g4, g5, g6, -, -, -, -, -, -, -, n0, n1, n2, n3, n4, n5, n6⟩ := h.space (show q < 16 by omega)
    rcases hr p hp with z | ⟨-, -, -, z⟩
    · exact hk p hp a1.1 z
    rcases z q hq with z | z
    · exact hk q (by omega) a2.1 z
    unfold spA at z
    obtain ⟨-, x1, x2, x3, x4⟩ := a1
    obtain ⟨-, y1, y2, y3, y4⟩ := a2
    unfold hIn at b1 b2
    have c5 : ∀ x, 0 ≤ mv m x → (mNa m x : Int) = mv m x := fun x hx => Int.toNat_of_nonneg hx
    have p5 := h.sp (q := p + 1) (by omega)
    have q5 := h.sp (q := q + 1) (by omega)
    unfold hFl hRf at p5 q5
    rw [if_neg (show ¬ p + 1 = 0 by omega), if_neg (show ¬ p + 1 = 0 by omega), Nat.add_sub_cancel] at p5
    rw [if_neg (show ¬ q + 1 = 0 by omega), if_neg (show ¬ q + 1 = 0 by omega), Nat.add_sub_cancel] at q5
    have e1 := c5 (157 + p * 8) (by omega)
    have e2 := c5 (158 + p * 8) (by omega)
    have e3 := c5 (157 + q * 8) (by omega)
    have e4 := c5 (158 + q * 8) (by omega)
    omega
  rcases Nat.lt_trichotomy p q with z | z | z
  · exact (key q p hq z a2 b2 a1 b1).elim
  · exact z
  · exact (key p q hp z a1 b1 a2 b2).elim
theorem pF_split {s k : Nat} {y : Int} (hs : s < 16) (hk : k < 16) (h0 : 0 ≤ y) (h1 : y < 200000) : pFo m o s k y = 16 + sZ (fun q => if oC m o s k q then bx (hFl m q) (hRf m q) (fun _ => hBt m o q) y else 0) 1 16 := by
  unfold pFo ptB
  rw [show (17 : Nat) = 1 + 16 from rfl, sZ_split]
  have : oC m o s k 0 := ⟨sbO_0 o, ⟨⟨Nat.zero_le _, by show s < 0 + (15 + 1 - 0); omega⟩, Nat.zero_le _, by show k < 0 + (15 + 1 - 0); omega⟩⟩
  have e0 : sZ (fun q => if oC m o s k q then bx (hFl m q) (hRf m q) (fun _ => hBt m o q) y else 0) 0 1 = 16 := by
    show 0 + (if oC m o s k (0 + 0) then bx (hFl m (0 + 0)) (hRf m (0 + 0)) (fun _ => hBt m o (0 + 0)) y else 0) = 16
    rw [if_pos this]
    unfold bx hFl hRf hBt
    rw [if_pos rfl, if_pos rfl, if_pos ⟨h0, h1⟩, if_pos rfl]
    rfl
  rw [e0]
theorem pF_none {s k : Nat} {y : Int} (hs : s < 16) (hk : k < 16) (h0 : 0 ≤ y) (h1 : y < 200000) (hn : ∀ p, p < 16 → oA m o s k p → ¬ hIn m p y) : pFo m o s k y = 16 := by
  rw [pF_split hs hk h0 h1, sZ_cg (g := fun _ => 0), sZ_nul]; rfl
  intro q q1 q2
  obtain ⟨p, rfl⟩ : ∃ p, q = p + 1 := ⟨q - 1, by omega⟩
  by_cases z : oC m o s k (p + 1)
  · rw [if_pos z]
    have := hn p (by omega) ((oA_C s k p).mp z)
    unfold bx hFl hRf
    rw [if_neg (show ¬ p + 1 = 0 by omega), if_neg (show ¬ p + 1 = 0 by omega), Nat.add_sub_cancel, if_neg (show ¬ (64 * mv m (157 + p * 8) ≤ y ∧ y < 64 * mv m (158 + p * 8)) from this)]
  · rw [if_neg z]
theorem pF_in (h : mQ m I J) (hr : ∀ p, p < 16 → spR m p) (ho : opKd m o) {s k : Nat} {y : Int} (hs : s < 16) (hk : k < 16) (h0 : 0 ≤ y) (h1 : y < 200000) {p : Nat} (hp : p < 16) (a : oA m o s k p) (b : hIn m p y) : pFo m o s k y = mv m (159 + p * 8) := by
  rw [pF_split hs hk h0 h1, sZ_one (p := p + 1) (by omega) (by omega)]
  · rw [if_pos ((oA_C s k p).mpr a)]
    unfold bx hFl hRf hBt
    rw [if_neg (show ¬ p + 1 = 0 by omega), if_neg (show ¬ p + 1 = 0 by omega), if_neg (show ¬ p + 1 = 0 by omega), Nat.add_sub_cancel, if_pos (show 64 * mv m (157 + p * 8) ≤ y ∧ y < 64 * mv m (158 + p * 8) from b)]
    show 16 + (if o.testBit p = true then mv m (159 + p * 8) - 16 else 1) = _
    rw [if_pos a.1]
    omega
  · intro q q1 q2 q3
    obtain ⟨p', rfl⟩ : ∃ p, q = p + 1 := ⟨q - 1, by omega⟩
    by_cases z : oC m o s k (p' + 1)
    · rw [if_pos z]
      unfold bx hFl hRf
      rw [if_neg (show ¬ p' + 1 = 0 by omega), if_neg (show ¬ p' + 1 = 0 by omega), Nat.add_sub_cancel, if_neg]
      intro y1
      have := o_one h hr ho (by omega) hp ((oA_C s k p').mp z) y1 a b
      omega
    · rw [if_neg z]
theorem mQ.f7 (h : mQ m I J) {p : Nat} (hp : p < 16) : 0 ≤ mv m (159 + p * 8) ∧ mv m (159 + p * 8) ≤ 16 := by
  obtain ⟨k, k1, k2⟩ := ok_m (h.2.2.1 (159 + p * 8) (by omega)) (a := 2) (b := p) (c := 7) (N := 16) (by decide) hp (by decide) (by show 159 + p * 8 = 152 + p * 8 + 7; omega) (by intro v hv; show v < 0; exact hv) rfl
  rw [mv_n k2 (by omega)]; omega
/-- a point weighs 0 to 16 -/
theorem pF_b (h : mQ m I J) (hr : ∀ p, p < 16 → spR m p) (ho : opKd m o) {s k : Nat} {y : Int} (hs : s < 16) (hk : k < 16) (h0 : 0 ≤ y) (h1 : y < 200000) : 0 ≤ pFo m o s k y ∧ pFo m o s k y ≤ 16 := by
  by_cases z : ∃ p, p < 16 ∧ oA m o s k p ∧ hIn m p y
  · obtain ⟨p, p1, p2, p3⟩ := z
    rw [pF_in h hr ho hs hk h0 h1 p1 p2 p3]
    exact h.f7 p1
  · rw [pF_none hs hk h0 h1 (fun p p1 p2 p3 => z ⟨p, p1, p2, p3⟩)]
    omega
theorem hBt_b (h : mQ m I J) (o : Nat) {q : Nat} (hq : q < 17) : -100 ≤ hBt m o q ∧ hBt m o q ≤ 100 := by
  unfold hBt
  by_cases z : q = 0
  · rw [if_pos z]; omega
  · rw [if_neg z]
    have := h.f7 (p := q - 1) (by omega)
    split <;> omega
end SEAS
