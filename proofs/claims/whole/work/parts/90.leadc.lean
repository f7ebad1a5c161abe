/-! PIPES: the search, state by state (no program here) -/
section LEADC
/-- the search at the cost now: Z is worked out, what is finite beside it waits -/
def djk (M : Nat) (B : Nat → Prop) (to now : Nat) (Z : Nat → Prop) (f : Nat → Nat) : Prop :=
  tab M B to Z f ∧ (∀ x, Z x → x < 9600 ∧ f x ≤ now) ∧ (∀ x, x < 9600 → f x < M → ¬ Z x → now ≤ f x ∧ f x ≤ now + 6) ∧ ∀ x, x < 9600 → f x ≤ M
/-- what waits -/
def wtN (M : Nat) (Z : Nat → Prop) (f : Nat → Nat) (x : Nat) : Prop := x < 9600 ∧ f x < M ∧ ¬ Z x
/-- the first j states of the cell p are offered their cost by way of the step s -/
def rlx (f : Nat → Nat) (p s v j : Nat) (z : Nat) : Nat := if z / 6 = p ∧ z % 6 < j then min (f z) (v + prN s (z % 6)) else f z
theorem rlx_le (f : Nat → Nat) (p s v j z : Nat) : rlx f p s v j z ≤ f z := by unfold rlx; split <;> omega
theorem rlx_low {f : Nat → Nat} {p s v j z : Nat} (h : f z ≤ v) : rlx f p s v j z = f z := by
  unfold rlx
  have := pr_two s (z % 6)
  split <;> omega
theorem rlx_zero (f : Nat → Nat) (p s v z : Nat) : rlx f p s v 0 z = f z := by
  unfold rlx; rw [if_neg (by omega)]
theorem rlx_succ (f : Nat → Nat) {p s v j : Nat} (hj : j < 6) (z : Nat) : rlx f p s v (j + 1) z = upO (rlx f p s v j) (6 * p + j) (min (rlx f p s v j (6 * p + j)) (v + prN s j)) z := by
  by_cases e : z = 6 * p + j
  · subst e
    rw [upO_s]
    unfold rlx
    rw [if_pos (by omega), if_neg (by omega), show (6 * p + j) % 6 = j by omega]
  · rw [upO_n _ _ e]
    unfold rlx
    by_cases q : z / 6 = p ∧ z % 6 < j
    · rw [if_pos q, if_pos (by omega)]
    · rw [if_neg q, if_neg (by omega)]
section DJK
variable {M : Nat} {B : Nat → Prop} {to now : Nat} {Z : Nat → Prop} {f : Nat → Nat}
theorem djk.next (D : djk M B to now Z f) (h : ∀ x, wtN M Z f x → f x ≠ now) : djk M B to (now + 1) Z f := by
  obtain ⟨d1, d2, d3, d4⟩ := D
  refine ⟨d1, fun x hx => ⟨(d2 x hx).1, by have := d2 x hx; omega⟩, fun x h1 h2 h3 => ?_, d4⟩
  have := d3 x h1 h2 h3
  have := h x ⟨h1, h2, h3⟩
  omega
theorem djk.go (D : djk M B to now Z f) {c s p : Nat} (hc : c < 1600) (hs : s < 6) (hp : p < 1600) (hz : ¬ Z (6 * c + s)) (hf : f (6 * c + s) = now) (hM : now < M) (h1 : stp p s c) (hb : ¬ B p) : djk M B to now (fun y => y = 6 * c + s ∨ Z y) (rlx f p s now 6) := by
  obtain ⟨⟨t1, t2, t3, t4⟩, d2, d3, d4⟩ := D
  have low : ∀ y, y = 6 * c + s ∨ Z y → rlx f p s now 6 y = f y := by
    rintro y (rfl | hy)
    · exact rlx_low (by omega)
    · exact rlx_low (d2 y hy).2
  refine ⟨⟨?_, ?_, ?_, ?_⟩, ?_, ?_, ?_⟩
  · intro u hu
    have := rlx_le f p s now 6 (6 * to + u)
    rw [t1 u hu] at this
    omega
  · intro c' l hc' hl e hm
    by_cases q : f (6 * c' + l) ≤ rlx f p s now 6 (6 * c' + l)
    · have q2 := rlx_le f p s now 6 (6 * c' + l)
      have q3 : rlx f p s now 6 (6 * c' + l) = f (6 * c' + l) := by omega
      obtain ⟨nb, s', n, g1, g2, g3⟩ := t2 c' l hc' hl e (by omega)
      exact ⟨nb, s', n, g1, Or.inr g2, by rw [q3, low _ (Or.inr g2), g3]⟩
    · have q4 : rlx f p s now 6 (6 * c' + l) = now + prN s l ∧ c' = p := by
        unfold rlx at q ⊢
        split at q
        · rename_i h
          rw [if_pos h]
          rw [show (6 * c' + l) % 6 = l by omega] at q ⊢
          constructor
          · omega
          · omega
        · omega
      obtain ⟨q4, q5⟩ := q4
      subst q5
      exact ⟨hb, s, c, h1, Or.inl rfl, by rw [q4, low _ (Or.inl rfl), hf]⟩
  · rintro c' s' p' l hc' hp' hl hzz g1 g2
    rw [low _ hzz]
    by_cases e : 6 * c' + s' = 6 * c + s
    · have hs' := stp_s g1
      have e1 : c' = c := by omega
      have e2 : s' = s := by omega
      subst e1 e2
      have e3 : p' = p := stp_fn ((stp_bk hs' hc' hp').mpr g1) ((stp_bk hs' hc' hp).mpr h1)
      subst e3
      unfold rlx
      rw [if_pos (by omega), show (6 * p' + l) % 6 = l by omega, hf]
      omega
    · have := rlx_le f p s now 6 (6 * p' + l)
      have := t3 c' s' p' l hc' hp' hl (hzz.resolve_left e) g1 g2
      omega
  · intro x hx
    rw [low x hx]
    rcases hx with e | hx
    · subst e; omega
    · exact t4 x hx
  · intro x hx
    rw [low x hx]
    rcases hx with e | hx
    · subst e; omega
    · exact d2 x hx
  · intro x hx hm hn
    have q2 := rlx_le f p s now 6 x
    by_cases q : f x ≤ rlx f p s now 6 x
    · have := d3 x hx (by omega) (fun z => hn (Or.inr z))
      omega
    · unfold rlx at q hm ⊢
      have := pr_two s (x % 6)
      split at q
      · rename_i h
        rw [if_pos h]
        omega
      · omega
  · intro x hx
    have := rlx_le f p s now 6 x
    have := d4 x hx
    omega
theorem djk.skip (D : djk M B to now Z f) {c s : Nat} (hc : c < 1600) (hs : s < 6) (hf : f (6 * c + s) = now) (hM : now < M) (h : ∀ p, p < 1600 → stp p s c → ¬ B p → p = to) : djk M B to now (fun y => y = 6 * c + s ∨ Z y) f := by
  obtain ⟨⟨t1, t2, t3, t4⟩, d2, d3, d4⟩ := D
  refine ⟨⟨t1, ?_, ?_, ?_⟩, ?_, ?_, d4⟩
  · intro c' l hc' hl e hm
    obtain ⟨nb, s', n, g1, g2, g3⟩ := t2 c' l hc' hl e hm
    exact ⟨nb, s', n, g1, Or.inr g2, g3⟩
  · rintro c' s' p' l hc' hp' hl (e | hzz) g1 g2
    · have hs' := stp_s g1
      have e1 : c' = c := by omega
      have e2 : s' = s := by omega
      subst e1 e2
      rw [h p' hp' g1 g2, t1 l hl]
      omega
    · exact t3 c' s' p' l hc' hp' hl hzz g1 g2
  · rintro x (e | hx)
    · subst e; omega
    · exact t4 x hx
  · rintro x (e | hx)
    · subst e; omega
    · exact d2 x hx
  · intro x hx hm hn
    exact d3 x hx hm (fun z => hn (Or.inr z))
theorem djk_init {M : Nat} (B : Nat → Prop) {to : Nat} (hM : 0 < M) {f : Nat → Nat} (h : ∀ x, x < 9600 → f x = if x / 6 = to then 0 else M) (ht : to < 1600) : djk M B to 0 (fun _ => False) f := by
  refine ⟨⟨?_, ?_, ?_, ?_⟩, ?_, ?_, ?_⟩
  · intro s hs
    rw [h _ (by omega), if_pos (by omega)]
  · intro c l hc hl e hm
    rw [h _ (by omega), if_neg (by omega)] at hm
    omega
  · intro _ _ _ _ _ _ _ z; exact z.elim
  · intro _ z; exact z.elim
  · intro _ z; exact z.elim
  · intro x hx hm _
    rw [h x hx] at hm ⊢
    split at hm
    · rename_i q; rw [if_pos q]; omega
    · omega
  · intro x hx
    rw [h x hx]
    split <;> omega
theorem djk.fin {x : Nat} (D : djk M B to now Z f) (hx : x < 9600) (h : f x < M) : f x ≤ 9600 := by
  have e : x = 6 * (x / 6) + x % 6 := by omega
  rw [e] at h ⊢
  exact D.1.most (by omega) (by omega) h
/-- the least way from fr, after one more state is worked out -/
theorem lst_go (D : djk M B to now Z f) {c s p fr K : Nat} (hc : c < 1600) (hs : s < 6) (hp : p < 1600) (hf : f (6 * c + s) = now) (hfr : fr < 1600) (h1 : stp p s c) (hl : lstP M Z f fr K) {g : Nat → Nat} (hg : ∀ y, y = 6 * c + s ∨ Z y → g y = f y) : lstP M (fun y => y = 6 * c + s ∨ Z y) g fr (if p = fr then min K (now + csN s) else K) := by
  obtain ⟨k0, k1, k2⟩ := hl
  have c2 := cs_two s
  have inj : ∀ s' n, stp fr s' n → 6 * n + s' = 6 * c + s → p = fr ∧ s' = s ∧ n = c := by
    intro s' n g1 g2
    have := stp_s g1
    have e1 : n = c := by omega
    have e2 : s' = s := by omega
    subst e1 e2
    exact ⟨stp_fn ((stp_bk hs hc hp).mpr h1) ((stp_bk hs hc hfr).mpr g1), rfl, rfl⟩
  refine ⟨by split <;> omega, ?_, ?_⟩
  · by_cases e : p = fr
    · rw [if_pos e]
      by_cases q : K ≤ now + csN s
      · rw [Nat.min_eq_left q]
        rcases k1 with z | ⟨s', n, g1, g2, g3⟩
        · exact Or.inl z
        · exact Or.inr ⟨s', n, g1, Or.inr g2, by rw [hg _ (Or.inr g2)]; exact g3⟩
      · rw [Nat.min_eq_right (by omega)]
        exact Or.inr ⟨s, c, e ▸ h1, Or.inl rfl, by rw [hg _ (Or.inl rfl), hf]⟩
    · rw [if_neg e]
      rcases k1 with z | ⟨s', n, g1, g2, g3⟩
      · exact Or.inl z
      · exact Or.inr ⟨s', n, g1, Or.inr g2, by rw [hg _ (Or.inr g2)]; exact g3⟩
  · rintro s' n g1 g2
    rw [hg _ g2]
    by_cases q : 6 * n + s' = 6 * c + s
    · obtain ⟨q1, q2, q3⟩ := inj s' n g1 q
      subst q2 q3
      rw [if_pos q1, hf]
      omega
    · have := k2 s' n g1 (g2.resolve_left q)
      split <;> omega
theorem lst_skip {c s fr K : Nat} (hs : s < 6) (hf : f (6 * c + s) = now) (hl : lstP M Z f fr K) (h : ¬ stp fr s c) : lstP M (fun y => y = 6 * c + s ∨ Z y) f fr K := by
  obtain ⟨k0, k1, k2⟩ := hl
  refine ⟨k0, ?_, ?_⟩
  · rcases k1 with z | ⟨s', n, g1, g2, g3⟩
    · exact Or.inl z
    · exact Or.inr ⟨s', n, g1, Or.inr g2, g3⟩
  · rintro s' n g1 (e | g2)
    · have := stp_s g1
      have e1 : n = c := by omega
      have e2 : s' = s := by omega
      subst e1 e2
      exact absurd g1 h
    · exact k2 s' n g1 g2
end DJK
end LEADC
