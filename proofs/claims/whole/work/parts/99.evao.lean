/-! RULES: what a let's sum holds -/
section EVAO
variable {C R : Nat → Nat → Int32} {V : Nat → Int64} {wl : Nat → Nat}
/-- parts of a node -/
def chd (R : Nat → Nat → Int32) (a b : Nat) : Prop := b < 1400 ∧ ((R 2 a = nI b ∧ (R 0 a = 4 ∨ R 0 a = 6)) ∨ (R 1 a = nI b ∧ (R 0 a = 11 ∨ R 0 a = 22)) ∨ ((R 1 a = nI b ∨ R 2 a = nI b) ∧ (R 0 a = 12 ∨ R 0 a = 13 ∨ R 0 a = 14 ∨ R 0 a = 15 ∨ R 0 a = 20 ∨ R 0 a = 21 ∨ R 0 a = 23 ∨ R 0 a = 24 ∨ R 0 a = 25 ∨ R 0 a = 26 ∨ R 0 a = 27 ∨ R 0 a = 28)) ∨ ((R 1 a = nI b ∨ R 2 a = nI b ∨ R 3 a = nI b) ∧ (R 0 a = 7 ∨ R 0 a = 8 ∨ R 0 a = 9 ∨ R 0 a = 10)))
/-- a node and its parts, and theirs -/
def rc (R : Nat → Nat → Int32) (a x : Nat) : Prop := ∀ Q : Nat → Prop, Q a → (∀ b y, Q b → chd R b y → Q y) → Q x
theorem rc.refl (a : Nat) : rc R a a := fun _ h _ => h
theorem rc.step {a b x : Nat} (h : rc R a b) (z : chd R b x) : rc R a x := fun Q h0 h1 => h1 b x (h Q h0 h1) z
/-- the nodes that mean something where m lets stand -/
def inT (C R : Nat → Nat → Int32) (V : Nat → Int64) (wl : Nat → Nat) (m x : Nat) : Prop := (∃ mt h b w s rho n, rel C R V m mt (wl m) h b w s rho n x) ∨ (∃ mt h b w s rho n kd j last, kdC b kd ∧ chL C R kd (fun w' n' k' => rel C R V m mt (wl m) h b w' s rho n' k') j w n last x)
theorem nI_ij {x : Int32} {a b : Nat} (h1 : x = nI a) (h2 : x = nI b) (ha : a < 1400) (hb : b < 1400) : a = b := by
  rw [h1] at h2
  have := congrArg Int32.toNatClampNeg h2
  rwa [nI_clamp (by omega), nI_clamp (by omega)] at this
theorem chL_T {m mt h s w n last k kd j : Nat} {b : Bool} {rho : Nat → Nat} (hk : kdC b kd) (hc : chL C R kd (fun w' n' k' => rel C R V m mt (wl m) h b w' s rho n' k') j w n last k) : (R 0 k = 12 ∨ R 0 k = 13 ∨ R 0 k = 14 ∨ R 0 k = 15 ∨ R 0 k = 20 ∨ R 0 k = 21) ∧ ∃ k1 k2, R 1 k = nI k1 ∧ k1 < 1400 ∧ inT C R V wl m k1 ∧ R 2 k = nI k2 ∧ k2 < 1400 ∧ inT C R V wl m k2 := by
  have op6 : ∀ v : Int32, opC kd v (R 0 k) → (R 0 k = 12 ∨ R 0 k = 13 ∨ R 0 k = 14 ∨ R 0 k = 15 ∨ R 0 k = 20 ∨ R 0 k = 21) := by
    intro v op
    rcases op with ⟨_, op⟩ | ⟨_, op⟩ | ⟨_, op⟩
    · rcases op with ⟨_, op⟩ | ⟨_, op⟩ | ⟨_, op⟩ | ⟨_, op⟩ <;> rw [op] <;> decide
    · rw [op]; decide
    · rw [op]; decide
  cases j with
  | zero =>
    obtain ⟨a1, a2, a3, a4, a5, w', n1, k1, n2, k2, b1, b2, b3, b4, b5, b6, b7⟩ := hc
    exact ⟨op6 _ a5, k1, k2, b3, (rel_k b4).2, Or.inl ⟨mt, h, b, w', s, rho, n1, b4⟩, b6, (rel_k b7).2, Or.inl ⟨mt, h, b, w', s, rho, n2, b7⟩⟩
  | succ j =>
    obtain ⟨a1, a2, a3, a4, w', l', k', n2, k2, b1, b2, b3, b4, b5, b6, b7⟩ := hc
    exact ⟨op6 _ a4, k', k2, b4, (chL_n _ _ _ _ _ b2).2, Or.inr ⟨mt, h, b, w', s, rho, n, kd, j, l', hk, b2⟩, b6, (rel_k b7).2, Or.inl ⟨mt, h, b, w', s, rho, n2, b7⟩⟩
theorem chL_cl {m mt h s w n last k kd j : Nat} {b : Bool} {rho : Nat → Nat} (hk : kdC b kd) (hc : chL C R kd (fun w' n' k' => rel C R V m mt (wl m) h b w' s rho n' k') j w n last k) {y : Nat} (hy : chd R k y) : inT C R V wl m y := by
  obtain ⟨o, k1, k2, e1, l1, t1, e2, l2, t2⟩ := chL_T hk hc
  obtain ⟨hb, z | z | ⟨z, _⟩ | z⟩ := hy
  · rcases o with o | o | o | o | o | o <;> rw [o] at z <;> exact absurd z.2 (by decide)
  · rcases o with o | o | o | o | o | o <;> rw [o] at z <;> exact absurd z.2 (by decide)
  · rcases z with z | z
    · rw [nI_ij z e1 hb l1]; exact t1
    · rw [nI_ij z e2 hb l2]; exact t2
  · rcases o with o | o | o | o | o | o <;> rw [o] at z <;> exact absurd z.2 (by decide)
theorem inT_cl {m x y : Nat} (hx : inT C R V wl m x) (hy : chd R x y) : inT C R V wl m y := by
  rcases hx with ⟨mt, h, b, w, s, rho, n, hr⟩ | ⟨mt, h, b, w, s, rho, n, kd, j, last, hk, hc⟩
  case inr => exact chL_cl hk hc hy
  cases h with
  | zero => exact hr.elim
  | succ h =>
    obtain ⟨a1, a2, z⟩ := hr
    rcases z with ⟨kd, j, last, c1, c2, c3⟩ | ⟨w', lw, z⟩
    · exact chL_cl c1 c2 hy
    have sub : ∀ (b' : Bool) w2 s' (r' : Nat → Nat) (n1 k1 : Nat), rel C R V m mt (wl m) h b' w2 s' r' n1 k1 → inT C R V wl m k1 := fun b' w2 s' r' n1 k1 q => Or.inl ⟨mt, h, b', w2, s', r', n1, q⟩
    obtain ⟨hb, hy⟩ := hy
    rcases z with ⟨rfl, z⟩ | ⟨rfl, z⟩
    · rcases z with ⟨_, o, _⟩ | ⟨_, o, i, i1, _, i2, i3⟩ | ⟨_, o, i, i1, _, i2, i3⟩ | ⟨_, o, i, n1, k1, _, _, e1, _, e2, q⟩ | ⟨_, o, i, _, _, e1⟩ | ⟨_, o, i, n1, k1, _, _, e1, _, e2, q⟩ | ⟨_, o, n1, k1, _, e1, q⟩ | ⟨_, o, n1, k1, n2, k2, n3, k3, _, e1, q1, _, e2, q2, _, e3, q3⟩ | ⟨i, n1, k1, n2, k2, n3, k3, w2, i3, _, o, _, _, lw2, _, e1, q1, _, e2, q2, _, e3, q3, hne⟩
      · rw [o] at hy; rcases hy with hy | hy | hy | hy <;> exact absurd hy.2 (by decide)
      · rw [o] at hy; rcases hy with hy | hy | hy | hy <;> exact absurd hy.2 (by decide)
      · rw [o] at hy; rcases hy with hy | hy | hy | hy <;> exact absurd hy.2 (by decide)
      · rw [o] at hy; rcases hy with hy | hy | hy | hy
        · rw [nI_ij hy.1 e2 hb (rel_k q).2]; exact sub _ _ _ _ _ _ q
        all_goals exact absurd hy.2 (by decide)
      · rw [o] at hy; rcases hy with hy | hy | hy | hy <;> exact absurd hy.2 (by decide)
      · rw [o] at hy; rcases hy with hy | hy | hy | hy
        · rw [nI_ij hy.1 e2 hb (rel_k q).2]; exact sub _ _ _ _ _ _ q
        all_goals exact absurd hy.2 (by decide)
      · rw [o] at hy; rcases hy with hy | hy | hy | hy
        · exact absurd hy.2 (by decide)
        · rw [nI_ij hy.1 e1 hb (rel_k q).2]; exact sub _ _ _ _ _ _ q
        all_goals exact absurd hy.2 (by decide)
      · rw [o] at hy; rcases hy with hy | hy | hy | ⟨hy, _⟩
        · exact absurd hy.2 (by decide)
        · exact absurd hy.2 (by decide)
        · exact absurd hy.2 (by decide)
        · rcases hy with hy | hy | hy
          · rw [nI_ij hy e1 hb (rel_k q1).2]; exact sub _ _ _ _ _ _ q1
          · rw [nI_ij hy e2 hb (rel_k q2).2]; exact sub _ _ _ _ _ _ q2
          · rw [nI_ij hy e3 hb (rel_k q3).2]; exact sub _ _ _ _ _ _ q3
      · rw [o] at hy; rcases hy with hy | hy | hy | ⟨hy, _⟩
        · rcases (show i = 0 ∨ i = 1 ∨ i = 2 by omega) with z | z | z <;> subst z <;> exact absurd hy.2 (by decide)
        · rcases (show i = 0 ∨ i = 1 ∨ i = 2 by omega) with z | z | z <;> subst z <;> exact absurd hy.2 (by decide)
        · rcases (show i = 0 ∨ i = 1 ∨ i = 2 by omega) with z | z | z <;> subst z <;> exact absurd hy.2 (by decide)
        · rcases hy with hy | hy | hy
          · rw [nI_ij hy e1 hb (rel_k q1).2]; exact sub _ _ _ _ _ _ q1
          · rw [nI_ij hy e2 hb (rel_k q2).2]; exact sub _ _ _ _ _ _ q2
          · rw [nI_ij hy e3 hb (rel_k q3).2]; exact sub _ _ _ _ _ _ q3
    · rcases z with ⟨_, o, n1, k1, _, e1, q⟩ | ⟨_, o, n1, k1, n2, k2, _, e1, q1, _, e2, q2⟩
      · rw [o] at hy; rcases hy with hy | hy | hy | hy
        · exact absurd hy.2 (by decide)
        · rw [nI_ij hy.1 e1 hb (rel_k q).2]; exact sub _ _ _ _ _ _ q
        all_goals exact absurd hy.2 (by decide)
      · rcases hy with hy | hy | ⟨hy, _⟩ | hy
        · rcases o with ⟨_, o⟩ | ⟨_, o⟩ | ⟨_, o⟩ | ⟨_, o⟩ | ⟨_, o⟩ | ⟨_, o⟩ <;> rw [o] at hy <;> exact absurd hy.2 (by decide)
        · rcases o with ⟨_, o⟩ | ⟨_, o⟩ | ⟨_, o⟩ | ⟨_, o⟩ | ⟨_, o⟩ | ⟨_, o⟩ <;> rw [o] at hy <;> exact absurd hy.2 (by decide)
        · rcases hy with hy | hy
          · rw [nI_ij hy e1 hb (rel_k q1).2]; exact sub _ _ _ _ _ _ q1
          · rw [nI_ij hy e2 hb (rel_k q2).2]; exact sub _ _ _ _ _ _ q2
        · rcases o with ⟨_, o⟩ | ⟨_, o⟩ | ⟨_, o⟩ | ⟨_, o⟩ | ⟨_, o⟩ | ⟨_, o⟩ <;> rw [o] at hy <;> exact absurd hy.2 (by decide)
theorem inT_rc {m x y : Nat} (hx : inT C R V wl m x) (hy : rc R x y) : inT C R V wl m y := hy _ hx (fun _ _ a b => inT_cl a b)
/-- a let spoken of is an earlier one -/
theorem inT_let {m x i : Nat} (hx : inT C R V wl m x) (h0 : R 0 x = 3) (h1 : R 1 x = nI i) (hi : i < 1400) (hm : m ≤ 1400) : i < m := by
  rcases hx with ⟨mt, h, b, w, s, rho, n, hr⟩ | ⟨mt, h, b, w, s, rho, n, kd, j, last, hk, hc⟩
  case inr =>
    obtain ⟨o, _⟩ := chL_T hk hc
    rw [h0] at o
    exact absurd o (by decide)
  cases h with
  | zero => exact hr.elim
  | succ h =>
    obtain ⟨a1, a2, z⟩ := hr
    rcases z with ⟨kd, j, last, c1, c2, c3⟩ | ⟨w', lw, z⟩
    · obtain ⟨o, _⟩ := chL_T c1 c2
      rw [h0] at o
      exact absurd o (by decide)
    rcases z with ⟨rfl, z⟩ | ⟨rfl, z⟩
    · rcases z with ⟨_, o, _⟩ | ⟨_, o, i, i1, _, i2, i3⟩ | ⟨_, o, i', i1, _, i2, i3⟩ | ⟨_, o, i, n1, k1, _, _, e1, _, e2, q⟩ | ⟨_, o, i, _, _, e1⟩ | ⟨_, o, i, n1, k1, _, _, e1, _, e2, q⟩ | ⟨_, o, n1, k1, _, e1, q⟩ | ⟨_, o, n1, k1, n2, k2, n3, k3, _, e1, q1, _, e2, q2, _, e3, q3⟩ | ⟨i, n1, k1, n2, k2, n3, k3, w2, i3, _, o, _, _, lw2, _, e1, q1, _, e2, q2, _, e3, q3, hne⟩
      · rw [h0] at o; exact absurd o (by decide)
      · rw [h0] at o; exact absurd o (by decide)
      · rw [nI_ij h1 i2 hi (by omega)]; exact i1
      · rw [h0] at o; exact absurd o (by decide)
      · rw [h0] at o; exact absurd o (by decide)
      · rw [h0] at o; exact absurd o (by decide)
      · rw [h0] at o; exact absurd o (by decide)
      · rw [h0] at o; exact absurd o (by decide)
      · rw [h0] at o; rcases (show i = 0 ∨ i = 1 ∨ i = 2 by omega) with z | z | z <;> subst z <;> exact absurd o (by decide)
    · rcases z with ⟨_, o, n1, k1, _, e1, q⟩ | ⟨_, o, n1, k1, n2, k2, _, e1, q1, _, e2, q2⟩
      · rw [h0] at o; exact absurd o (by decide)
      · rw [h0] at o; rcases o with ⟨_, o⟩ | ⟨_, o⟩ | ⟨_, o⟩ | ⟨_, o⟩ | ⟨_, o⟩ | ⟨_, o⟩ <;> exact absurd o (by decide)
/-- counters that stand while the node k is worked out: those about k, and those of sums that came to a let -/
def ivC (R : Nat → Nat → Int32) (m s : Nat) (rho : Nat → Nat) (S : Nat) (sg : Nat → Nat) (k : Nat) : Prop := (∀ j, j < s → ∃ j', j' < S ∧ sg j' = rho j) ∧ ∀ j, j < S → ((∃ j', j' < s ∧ sg j = rho j') ∧ rc R (sg j) k) ∨ ∃ x i, rc R (sg j) x ∧ R 0 x = 3 ∧ R 1 x = nI i ∧ m ≤ i ∧ i < 1400
theorem ivC.part {m s S k k1 : Nat} {rho sg : Nat → Nat} (h : ivC R m s rho S sg k) (z : chd R k k1) : ivC R m s rho S sg k1 := ⟨h.1, fun j hj => by
  rcases h.2 j hj with ⟨a, b⟩ | a
  · exact Or.inl ⟨a, b.step z⟩
  · exact Or.inr a⟩
theorem ivC.let {m s S k i k1 : Nat} {rho sg : Nat → Nat} (h : ivC R m s rho S sg k) (h0 : R 0 k = 3) (h1 : R 1 k = nI i) (hi : i < m) (hm : m ≤ 1400) : ivC R i 0 rho0 S sg k1 := ⟨fun j hj => absurd hj (Nat.not_lt_zero _), fun j hj => by
  rcases h.2 j hj with ⟨a, b⟩ | ⟨x, i', b1, b2, b3, b4, b5⟩
  · exact Or.inr ⟨k, i, b, h0, h1, Nat.le_refl _, by omega⟩
  · exact Or.inr ⟨x, i', b1, b2, b3, by omega, b5⟩⟩
theorem ivC.ne {m s S k : Nat} {rho sg : Nat → Nat} (h : ivC R m s rho S sg k) (hk : inT C R V wl m k) (hm : m ≤ 1400) (hne : ∀ j, j < s → rho j ≠ k) : ∀ j, j < S → sg j ≠ k := by
  intro j hj z
  rcases h.2 j hj with ⟨⟨j', a1, a2⟩, b⟩ | ⟨x, i', b1, b2, b3, b4, b5⟩
  · exact hne j' a1 (a2.symm.trans z)
  · rw [z] at b1
    have := inT_let (inT_rc hk b1) b2 b3 b5 hm
    omega
theorem ivC.ser {m s S k k3 : Nat} {rho sg : Nat → Nat} (h : ivC R m s rho S sg k) (z : chd R k k3) : ivC R m (s + 1) (upN rho s k) (S + 1) (upN sg S k) k3 := by
  constructor
  · intro j hj
    by_cases y : j = s
    · subst y; exact ⟨S, Nat.lt_succ_self _, by rw [upN_o, upN_o]⟩
    · obtain ⟨j', a, b⟩ := h.1 j (by omega)
      exact ⟨j', by omega, by rw [upN_n sg (by omega), upN_n rho y]; exact b⟩
  · intro j hj
    by_cases y : j = S
    · subst y
      rw [upN_o]
      exact Or.inl ⟨⟨s, Nat.lt_succ_self _, by rw [upN_o]⟩, (rc.refl k).step z⟩
    · rw [upN_n sg y]
      rcases h.2 j (by omega) with ⟨⟨j', a1, a2⟩, b⟩ | a
      · exact Or.inl ⟨⟨j', by omega, by rw [upN_n rho (by omega)]; exact a2⟩, b.step z⟩
      · exact Or.inr a
end EVAO
