/-! TOOLS FOR THE SEMANTICS: stores, indices, loops, calls -/
theorem j_up_app {α : Type} (f : Nat → Nat → α) (a k : Nat) (v : α) (b j : Nat) : j_up f a k v b j = if b = a then (if j = k then v else f a j) else f b j := by
  unfold j_up va_up
  by_cases h : b = a
  · subst h; simp
  · simp [h]
theorem j_up_self {α : Type} (f : Nat → Nat → α) (a k : Nat) (v : α) : j_up f a k v a k = v := by rw [j_up_app, if_pos rfl, if_pos rfl]
theorem nI_mul (a b : Nat) : nI a * nI b = nI (a * b) := by
  unfold nI
  rw [Int32.ofNat_mul]
theorem j_in_nI {c n : Nat} (h : c < n) (hn : n < 2 ^ 31) : j_in (nI c) n = true := by
  unfold j_in
  rw [nI_clamp (by omega)]
  simp only [Bool.and_eq_true, Bool.not_eq_true', decide_eq_false_iff_not, decide_eq_true_eq]
  exact ⟨nI_pos (by omega), h⟩
/-- a row of equal states -/
theorem j_steps {β : Type} (G : Nat → β) (n : Nat) (h : ∀ i, i < n → G i = G (i + 1)) : ∀ m a, n - a ≤ m → a ≤ n → G a = G n := by
  intro m
  induction m with
  | zero => intro a h1 h2; rw [show a = n by omega]
  | succ m ih =>
    intro a h1 h2
    by_cases ha : a = n
    · rw [ha]
    · rw [h a (by omega)]
      exact ih (a + 1) (by omega) (by omega)
theorem j_run {β : Type} (G : Nat → β) (n : Nat) (h : ∀ i, i < n → G i = G (i + 1)) : G 0 = G n := j_steps G n h n 0 (by omega) (Nat.zero_le _)
/-- the same, where some locals are of no more use -/
theorem j_runE {α β : Type} (G : Nat → α → β) (n : Nat) (h : ∀ i, i < n → ∀ x, ∃ y, G i x = G (i + 1) y) : ∀ x, ∃ y, G 0 x = G n y := by
  have key : ∀ m a x, n - a ≤ m → a ≤ n → ∃ y, G a x = G n y := by
    intro m
    induction m with
    | zero => intro a x h1 h2; rw [show a = n by omega]; exact ⟨x, rfl⟩
    | succ m ih =>
      intro a x h1 h2
      by_cases ha : a = n
      · rw [ha]; exact ⟨x, rfl⟩
      · obtain ⟨y, hy⟩ := h a (by omega) x
        obtain ⟨z, hz⟩ := ih (a + 1) y (by omega) (by omega)
        exact ⟨z, hy.trans hz⟩
  exact fun x => key n 0 x (by omega) (Nat.zero_le _)
/-- a call whose run is known -/
theorem jgo_some {d k' : Nat} {as : List Value} {S S' : jS} {v : Option Value} {K : Option Value → jS → jO} (hf : Nat.ble (j_wd as) (jMM k').2 = true) (h : jv d k' 0 (j_ent (jMM k').2 as) [] S = some (v, S')) : jgo jTT jMM (d + 1) k' as S K = K v S' := by
  have h' : jev jTT jMM d k' 0 (j_ent (jMM k').2 as) [] S = some (v, S') := h
  simp only [jgo, hf, cond, h']
theorem nI_lit_eq {t : Nat} (k : Nat) (ht : t < 2 ^ 31) (hk : k < 2 ^ 31) : nI t = nI k ↔ t = k := nI_eq ht hk
/-- the first n of a row anew -/
def j_fill (f : Nat → Int32) (g : Nat → Int32) (n : Nat) : Nat → Int32 := fun j => if j < n then g j else f j
theorem j_fill_zero (f g : Nat → Int32) : j_fill f g 0 = f := by funext j; simp [j_fill]
theorem j_fill_succ (f g : Nat → Int32) (n : Nat) : va_up (j_fill f g n) n (g n) = j_fill f g (n + 1) := by
  funext j
  simp only [va_up, j_fill]
  by_cases h1 : j = n
  · subst h1; simp
  · by_cases h2 : j < n
    · rw [if_neg h1, if_pos h2, if_pos (by omega)]
    · rw [if_neg h1, if_neg h2, if_neg (by omega)]
theorem j_up_fill (I : Nat → Nat → Int32) (a n : Nat) (f g : Nat → Int32) : j_up (va_up I a (j_fill f g n)) a n (g n) = va_up I a (j_fill f g (n + 1)) := by
  unfold j_up
  rw [va_up_self, j_fill_succ]
  funext b
  by_cases hb : b = a
  · subst hb; rw [va_up_self, va_up_self]
  · rw [va_up_ne _ _ hb, va_up_ne _ _ hb, va_up_ne _ _ hb]
