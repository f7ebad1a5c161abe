/-! PIPES: the grid, a table of what is left, two such tables agree (no program here) -/
section LEADA
/-- the step s leads from the cell c to the cell n -/
def stp (c s n : Nat) : Prop := (s = 0 ∧ c % 20 < 19 ∧ n = c + 1) ∨ (s = 1 ∧ 0 < c % 20 ∧ n + 1 = c) ∨ (s = 2 ∧ c / 20 % 10 < 9 ∧ n = c + 20) ∨ (s = 3 ∧ 0 < c / 20 % 10 ∧ n + 20 = c) ∨ (s = 4 ∧ c / 200 < 7 ∧ n = c + 200) ∨ (s = 5 ∧ 0 < c / 200 ∧ n + 200 = c)
theorem stp_lt {c s n : Nat} (hc : c < 1600) (h : stp c s n) : n < 1600 := by unfold stp at h; omega
theorem stp_ne {c s n : Nat} (h : stp c s n) : n ≠ c := by unfold stp at h; omega
theorem stp_s {c s n : Nat} (h : stp c s n) : s < 6 := by unfold stp at h; omega
theorem stp_fn {c s n m : Nat} (h : stp c s n) (h' : stp c s m) : n = m := by unfold stp at h h'; omega
/-- the step's other way round -/
def bkS (s : Nat) : Nat := if s % 2 = 0 then s + 1 else s - 1
theorem stp_bk {c s p : Nat} (hs : s < 6) (hc : c < 1600) (hp : p < 1600) : stp c (bkS s) p ↔ stp p s c := by
  unfold stp bkS
  have : s = 0 ∨ s = 1 ∨ s = 2 ∨ s = 3 ∨ s = 4 ∨ s = 5 := by omega
  rcases this with rfl | rfl | rfl | rfl | rfl | rfl <;> simp <;> omega
def csN (s : Nat) : Nat := if s < 4 then 2 else 3
def prN (s l : Nat) : Nat := csN s + if l = s then 0 else 3
theorem cs_two (s : Nat) : 2 ≤ csN s ∧ csN s ≤ 3 := by unfold csN; split <;> omega
theorem pr_two (s l : Nat) : 2 ≤ prN s l ∧ prN s l ≤ 6 := by have := cs_two s; unfold prN; split <;> omega
theorem pr_three (s l k : Nat) : prN s l ≤ prN s k + 3 := by unfold prN; split <;> split <;> omega
/-- a table of what is left from each state, worked out as far as Z says -/
def tab (M : Nat) (B : Nat → Prop) (to : Nat) (Z : Nat → Prop) (f : Nat → Nat) : Prop :=
  (∀ s, s < 6 → f (6 * to + s) = 0) ∧
  (∀ c l, c < 1600 → l < 6 → c ≠ to → f (6 * c + l) < M → ¬ B c ∧ ∃ s n, stp c s n ∧ Z (6 * n + s) ∧ f (6 * c + l) = f (6 * n + s) + prN s l) ∧
  (∀ c s p l, c < 1600 → p < 1600 → l < 6 → Z (6 * c + s) → stp p s c → ¬ B p → f (6 * p + l) ≤ f (6 * c + s) + prN s l) ∧
  ∀ x, Z x → f x < M
theorem tab.zero {M : Nat} {B : Nat → Prop} {to : Nat} {Z : Nat → Prop} {f : Nat → Nat} (T : tab M B to Z f) : ∀ s, s < 6 → f (6 * to + s) = 0 := T.1
theorem tab.some {M : Nat} {B : Nat → Prop} {to : Nat} {Z : Nat → Prop} {f : Nat → Nat} (T : tab M B to Z f) : ∀ c l, c < 1600 → l < 6 → c ≠ to → f (6 * c + l) < M → ¬ B c ∧ ∃ s n, stp c s n ∧ Z (6 * n + s) ∧ f (6 * c + l) = f (6 * n + s) + prN s l := T.2.1
theorem tab.all {M : Nat} {B : Nat → Prop} {to : Nat} {Z : Nat → Prop} {f : Nat → Nat} (T : tab M B to Z f) : ∀ c s p l, c < 1600 → p < 1600 → l < 6 → Z (6 * c + s) → stp p s c → ¬ B p → f (6 * p + l) ≤ f (6 * c + s) + prN s l := T.2.2.1
theorem tab.fin {M : Nat} {B : Nat → Prop} {to : Nat} {Z : Nat → Prop} {f : Nat → Nat} (T : tab M B to Z f) : ∀ x, Z x → f x < M := T.2.2.2
theorem nodup_len : ∀ (n : Nat) (l : List Nat), l.Nodup → (∀ x ∈ l, x < n) → l.length ≤ n := by
  intro n
  induction n with
  | zero =>
    intro l _ h
    cases l with
    | nil => exact Nat.le_refl _
    | cons a t => exact absurd (h a (List.mem_cons_self)) (Nat.not_lt_zero _)
  | succ n ih =>
    intro l hn h
    have h1 := ih (l.erase n) (hn.erase n) (fun x hx => by
      have := (hn.mem_erase_iff).mp hx
      have := h x this.2
      omega)
    rw [List.length_erase] at h1
    split at h1 <;> omega
section TAB
variable {M : Nat} {B : Nat → Prop} {to : Nat} {Z : Nat → Prop} {f : Nat → Nat}
theorem tab.turn (T : tab M B to Z f) {c l k : Nat} (hc : c < 1600) (hl : l < 6) (hk : k < 6) (h : f (6 * c + l) < M) : f (6 * c + k) ≤ f (6 * c + l) + 3 := by
  by_cases e : c = to
  · subst e; rw [T.zero k hk]; omega
  · obtain ⟨nb, s, n, g1, g2, g3⟩ := T.some c l hc hl e h
    have := T.all n s c k (stp_lt hc g1) hc hk g2 g1 nb
    have := pr_three s k l
    omega
theorem tab.chain (T : tab M B to Z f) : ∀ (v c s : Nat), c < 1600 → s < 6 → f (6 * c + s) < M → f (6 * c + s) = v → ∃ l : List Nat, l.Nodup ∧ (∀ d ∈ l, d < 1600) ∧ v + 6 ≤ 6 * l.length ∧ ∀ d ∈ l, d = c ∨ ∃ u, u < 6 ∧ f (6 * d + u) + 2 ≤ v := by
  intro v
  induction v using Nat.strongRecOn with
  | ind v ih =>
    intro c s hc hs hM hv
    by_cases e : c = to
    · subst e
      rw [T.zero s hs] at hv
      exact ⟨[c], by simp, by simpa using hc, by simp; omega, by simp⟩
    · obtain ⟨nb, t, n, g1, g2, g3⟩ := T.some c s hc hs e hM
      have p2 := pr_two t s
      obtain ⟨l, l1, l2, l3, l4⟩ := ih (f (6 * n + t)) (by omega) n t (stp_lt hc g1) (stp_s g1) (T.fin _ g2) rfl
      refine ⟨c :: l, List.nodup_cons.mpr ⟨fun hm => ?_, l1⟩, ?_, ?_, ?_⟩
      · rcases l4 c hm with z | ⟨u, u1, u2⟩
        · exact stp_ne g1 z.symm
        · have := T.turn hc u1 hs (by omega)
          omega
      · intro d hd
        rcases List.mem_cons.mp hd with z | z
        · rw [z]; exact hc
        · exact l2 d z
      · rw [List.length_cons]; omega
      · intro d hd
        rcases List.mem_cons.mp hd with z | z
        · exact Or.inl z
        · refine Or.inr ?_
          rcases l4 d z with y | ⟨u, u1, u2⟩
          · subst y; exact ⟨t, stp_s g1, by omega⟩
          · exact ⟨u, u1, by omega⟩
theorem tab.lowM (T : tab M B to Z f) {c s : Nat} (hc : c < 1600) (hs : s < 6) (hz : f (6 * c + s) < M) : f (6 * c + s) ≤ 9594 := by
  obtain ⟨l, l1, l2, l3, -⟩ := T.chain _ c s hc hs hz rfl
  have := nodup_len 1600 l l1 l2
  omega
theorem tab.low (T : tab M B to Z f) {c s : Nat} (hc : c < 1600) (hs : s < 6) (hz : Z (6 * c + s)) : f (6 * c + s) ≤ 9594 := T.lowM hc hs (T.fin _ hz)
theorem tab.most (T : tab M B to Z f) {c s : Nat} (hc : c < 1600) (hs : s < 6) (h : f (6 * c + s) < M) : f (6 * c + s) ≤ 9600 := by
  by_cases e : c = to
  · subst e; rw [T.zero s hs]; omega
  · obtain ⟨nb, t, n, g1, g2, g3⟩ := T.some c s hc hs e h
    have := T.low (stp_lt hc g1) (stp_s g1) g2
    have := pr_two t s
    omega
end TAB
/-- the class's table (worked out below K) beside the reference's (worked out whole) -/
theorem tab_ge {M M' : Nat} {B : Nat → Prop} {to : Nat} {Z Z' : Nat → Prop} {f g : Nat → Nat} (T : tab M B to Z f) (G : tab M' B to Z' g) (hM : 9600 < M') (hZ : ∀ c s, c < 1600 → s < 6 → g (6 * c + s) < M' → Z' (6 * c + s)) : ∀ (v c s : Nat), c < 1600 → s < 6 → f (6 * c + s) = v → v < M → g (6 * c + s) ≤ v := by
  intro v
  induction v using Nat.strongRecOn with
  | ind v ih =>
    intro c s hc hs hv hm
    by_cases e : c = to
    · subst e; rw [G.zero s hs]; omega
    · obtain ⟨nb, t, n, g1, g2, g3⟩ := T.some c s hc hs e (by omega)
      have p2 := pr_two t s
      have h1 := ih (f (6 * n + t)) (by omega) n t (stp_lt hc g1) (stp_s g1) rfl (by omega)
      have h2 := T.low (stp_lt hc g1) (stp_s g1) g2
      have := G.all n t c s (stp_lt hc g1) hc hs (hZ n t (stp_lt hc g1) (stp_s g1) (by omega)) g1 nb
      omega
theorem tab_eq {M M' K : Nat} {B : Nat → Prop} {to : Nat} {Z Z' : Nat → Prop} {f g : Nat → Nat} (T : tab M B to Z f) (G : tab M' B to Z' g) (hM : 9600 < M') (hMf : 9600 < M) (hZ : ∀ c s, c < 1600 → s < 6 → g (6 * c + s) < M' → Z' (6 * c + s)) (hK : ∀ c s, c < 1600 → s < 6 → f (6 * c + s) < K → Z (6 * c + s)) : ∀ (v c s : Nat), c < 1600 → s < 6 → g (6 * c + s) = v → v < K → v < M' → f (6 * c + s) = v := by
  intro v
  induction v using Nat.strongRecOn with
  | ind v ih =>
    intro c s hc hs hv hk hm
    by_cases e : c = to
    · subst e; rw [G.zero s hs] at hv; rw [T.zero s hs]; omega
    · obtain ⟨nb, t, n, g1, g2, g3⟩ := G.some c s hc hs e (by omega)
      have p2 := pr_two t s
      have h1 := ih (g (6 * n + t)) (by omega) n t (stp_lt hc g1) (stp_s g1) rfl (by omega) (by omega)
      have z := hK n t (stp_lt hc g1) (stp_s g1) (by omega)
      have h2 := T.all n t c s (stp_lt hc g1) hc hs z g1 nb
      have h3 := G.low (stp_lt hc g1) (stp_s g1) g2
      have := tab_ge T G hM hZ _ c s hc hs rfl (by omega)
      omega
section BOTH
variable {M M' K : Nat} {B : Nat → Prop} {to : Nat} {Z Z' : Nat → Prop} {f g : Nat → Nat}
theorem tab_min (G : tab M' B to Z' g) (hZ : ∀ c s, c < 1600 → s < 6 → g (6 * c + s) < M' → Z' (6 * c + s)) {c l : Nat} (hc : c < 1600) (hl : l < 6) (e : c ≠ to) (h : g (6 * c + l) < M') : (∀ s n, stp c s n → g (6 * n + s) < M' → g (6 * c + l) ≤ g (6 * n + s) + prN s l) ∧ ∃ s n, stp c s n ∧ g (6 * n + s) < M' ∧ g (6 * n + s) + prN s l = g (6 * c + l) := by
  obtain ⟨nb, t, n, g1, g2, g3⟩ := G.some c l hc hl e h
  exact ⟨fun s m h1 h2 => G.all m s c l (stp_lt hc h1) hc hl (hZ m s (stp_lt hc h1) (stp_s h1) h2) h1 nb, t, n, g1, G.fin _ g2, g3.symm⟩
theorem tab_step (T : tab M B to Z f) (G : tab M' B to Z' g) (hM : 9600 < M') (hMf : 9600 < M) (hZ : ∀ c s, c < 1600 → s < 6 → g (6 * c + s) < M' → Z' (6 * c + s)) (hK : ∀ c s, c < 1600 → s < 6 → f (6 * c + s) < K → Z (6 * c + s)) {c l s n : Nat} (hc : c < 1600) (hl : l < 6) (e : c ≠ to) (h : g (6 * c + l) < M') (h2 : g (6 * c + l) < K) (h1 : stp c s n) : f (6 * n + s) + prN s l = g (6 * c + l) ↔ g (6 * n + s) + prN s l = g (6 * c + l) := by
  have p2 := pr_two s l
  have hm := G.most hc hl h
  constructor
  · intro h3
    have h4 := tab_ge T G hM hZ _ n s (stp_lt hc h1) (stp_s h1) rfl (by omega)
    have := (tab_min G hZ hc hl e h).1 s n h1 (by omega)
    omega
  · intro h3
    have := tab_eq T G hM hMf hZ hK _ n s (stp_lt hc h1) (stp_s h1) rfl (by omega) (by omega)
    omega
/-- the least that the class's search answers -/
def lstP (M : Nat) (Z : Nat → Prop) (f : Nat → Nat) (fr K : Nat) : Prop := K ≤ M ∧ (K = M ∨ ∃ s n, stp fr s n ∧ Z (6 * n + s) ∧ K = f (6 * n + s) + csN s) ∧ ∀ s n, stp fr s n → Z (6 * n + s) → K ≤ f (6 * n + s) + csN s
theorem tab_first (T : tab M B to Z f) (G : tab M' B to Z' g) (hM : 9600 < M') (hMf : 9603 < M) (hZ : ∀ c s, c < 1600 → s < 6 → g (6 * c + s) < M' → Z' (6 * c + s)) (hK : ∀ c s, c < 1600 → s < 6 → f (6 * c + s) < K → Z (6 * c + s)) {c : Nat} (hc : c < 1600) (hl : lstP M Z f c K) : (∀ s n, stp c s n → g (6 * n + s) < M' → K ≤ g (6 * n + s) + csN s) ∧ ((K = M ∧ ∀ s n, stp c s n → ¬ g (6 * n + s) < M') ∨ (K < M ∧ K ≤ 9603 ∧ (∃ s n, stp c s n ∧ g (6 * n + s) < M' ∧ g (6 * n + s) + csN s = K) ∧ ∀ s n, stp c s n → (f (6 * n + s) + csN s = K ↔ g (6 * n + s) + csN s = K))) := by
  obtain ⟨k0, k1, k2⟩ := hl
  have a1 : ∀ s n, stp c s n → g (6 * n + s) < M' → K ≤ g (6 * n + s) + csN s := by
    intro s n h1 h2
    by_cases q : g (6 * n + s) + csN s < K
    · have p2 := cs_two s
      have h3 := tab_eq T G hM (by omega) hZ hK _ n s (stp_lt hc h1) (stp_s h1) rfl (by omega) h2
      have := k2 s n h1 (hK n s (stp_lt hc h1) (stp_s h1) (by omega))
      omega
    · omega
  refine ⟨a1, ?_⟩
  by_cases q : K = M
  · refine Or.inl ⟨q, fun s n h1 h2 => ?_⟩
    have p2 := cs_two s
    have h3 := G.most (stp_lt hc h1) (stp_s h1) h2
    have := a1 s n h1 h2
    omega
  · refine Or.inr ⟨by omega, ?_⟩
    rcases k1 with z | ⟨s, n, h1, h2, h3⟩
    · exact absurd z q
    · have p2 := cs_two s
      have h4 := T.low (stp_lt hc h1) (stp_s h1) h2
      have h5 := tab_ge T G hM hZ _ n s (stp_lt hc h1) (stp_s h1) rfl (T.fin _ h2)
      have h6 := a1 s n h1 (by omega)
      refine ⟨by omega, ⟨s, n, h1, by omega, by omega⟩, fun t m w1 => ?_⟩
      have p3 := cs_two t
      constructor
      · intro w2
        have w3 := tab_ge T G hM hZ _ m t (stp_lt hc w1) (stp_s w1) rfl (by omega)
        have := a1 t m w1 (by omega)
        omega
      · intro w2
        have := tab_eq T G hM (by omega) hZ hK _ m t (stp_lt hc w1) (stp_s w1) rfl (by omega) (by omega)
        omega
end BOTH
end LEADA
