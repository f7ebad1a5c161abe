/-! PIPES: a ring of lists with links both ways; counting (no program here) -/
section LEADB
/-- how many below n -/
noncomputable def cnN (P : Nat → Prop) : Nat → Nat
  | 0 => 0
  | n + 1 => cnN P n + @ite _ (P n) (Classical.propDecidable (P n)) 1 0
theorem cnN_le (P : Nat → Prop) (n : Nat) : cnN P n ≤ n := by
  induction n with
  | zero => exact Nat.le_refl _
  | succ n ih => unfold cnN; split <;> omega
theorem cnN_eq {P Q : Nat → Prop} : ∀ {n : Nat}, (∀ y, y < n → (P y ↔ Q y)) → cnN P n = cnN Q n := by
  intro n
  induction n with
  | zero => intro _; rfl
  | succ n ih =>
    intro h
    unfold cnN
    rw [ih (fun y hy => h y (by omega))]
    by_cases hp : P n
    · rw [if_pos hp, if_pos ((h n (by omega)).mp hp)]
    · rw [if_neg hp, if_neg (fun z => hp ((h n (by omega)).mpr z))]
theorem cnN_add {P Q : Nat → Prop} {x : Nat} : ∀ {n : Nat}, x < n → P x → ¬ Q x → (∀ y, y ≠ x → (P y ↔ Q y)) → cnN P n = cnN Q n + 1 := by
  intro n
  induction n with
  | zero => intro h; exact absurd h (Nat.not_lt_zero _)
  | succ n ih =>
    intro hx hp hq h
    unfold cnN
    by_cases e : x = n
    · subst e
      rw [if_pos hp, if_neg hq, cnN_eq (fun y hy => h y (by omega))]
    · rw [ih (by omega) hp hq h]
      by_cases hn : P n
      · rw [if_pos hn, if_pos ((h n (by omega)).mp hn)]
      · rw [if_neg hn, if_neg (fun z => hn ((h n (by omega)).mpr z))]
theorem cnN_zero {P : Nat → Prop} : ∀ {n : Nat}, cnN P n = 0 → ∀ y, y < n → ¬ P y := by
  intro n
  induction n with
  | zero => intro _ y hy; exact absurd hy (Nat.not_lt_zero _)
  | succ n ih =>
    intro h y hy
    unfold cnN at h
    by_cases e : y = n
    · subst e; intro hp; rw [if_pos hp] at h; omega
    · exact ih (by omega) y (by omega)
theorem cnN_pos {P : Nat → Prop} {n x : Nat} (hx : x < n) (h : P x) : 0 < cnN P n := by
  rcases Nat.eq_zero_or_pos (cnN P n) with z | z
  · exact absurd h (cnN_zero z x hx)
  · exact z
/-- the lists: W are those that wait, t the turn at which each came -/
def rng (W : Nat → Prop) (t : Nat → Nat) (T : Nat) (f : Nat → Nat) (h nx bf : Nat → Option Nat) : Prop :=
  (∀ w, W w → w < 9600 ∧ t w < T) ∧
  (∀ k w, h k = some w → W w ∧ f w % 8 = k ∧ bf w = none) ∧
  (∀ w v, W w → nx w = some v → W v ∧ bf v = some w ∧ f v % 8 = f w % 8 ∧ t v < t w) ∧
  ∀ w, W w → (bf w = none ∧ h (f w % 8) = some w) ∨ ∃ u, bf w = some u ∧ W u ∧ nx u = some w
section RNG
variable {W : Nat → Prop} {t : Nat → Nat} {T : Nat} {f : Nat → Nat} {h nx bf : Nat → Option Nat}
theorem rng.lt (R : rng W t T f h nx bf) : ∀ w, W w → w < 9600 ∧ t w < T := R.1
theorem rng.hd (R : rng W t T f h nx bf) : ∀ k w, h k = some w → W w ∧ f w % 8 = k ∧ bf w = none := R.2.1
theorem rng.nxt (R : rng W t T f h nx bf) : ∀ w v, W w → nx w = some v → W v ∧ bf v = some w ∧ f v % 8 = f w % 8 ∧ t v < t w := R.2.2.1
theorem rng.bef (R : rng W t T f h nx bf) : ∀ w, W w → (bf w = none ∧ h (f w % 8) = some w) ∨ ∃ u, bf w = some u ∧ W u ∧ nx u = some w := R.2.2.2
theorem rng.full (R : rng W t T f h nx bf) : ∀ (m w : Nat), W w → T - t w ≤ m → ∃ v, h (f w % 8) = some v := by
  intro m
  induction m with
  | zero =>
    intro w hw hm
    have := (R.lt w hw).2
    omega
  | succ m ih =>
    intro w hw hm
    rcases R.bef w hw with ⟨-, z⟩ | ⟨u, u1, u2, u3⟩
    · exact ⟨w, z⟩
    · obtain ⟨-, -, w3, w4⟩ := R.nxt u w u2 u3
      rw [w3]
      exact ih u u2 (by omega)
def upO {α : Type} (g : Nat → α) (k : Nat) (v : α) (j : Nat) : α := if j = k then v else g j
theorem upO_s {α : Type} (g : Nat → α) (k : Nat) (v : α) : upO g k v k = v := if_pos rfl
theorem upO_n {α : Type} (g : Nat → α) {k j : Nat} (v : α) (e : j ≠ k) : upO g k v j = g j := if_neg e
theorem rng.push (R : rng W t T f h nx bf) {x n : Nat} (hx : x < 9600) (hw : ¬ W x) : rng (fun y => y = x ∨ W y) (upO t x T) (T + 1) (upO f x n) (upO h (n % 8) (some x)) (upO nx x (h (n % 8))) (match h (n % 8) with | some v => upO (upO bf x none) v (some x) | none => upO bf x none) := by
  have ne : ∀ y, W y → y ≠ x := fun y hy e => hw (e ▸ hy)
  have hbx : (match h (n % 8) with | some v => upO (upO bf x none) v (some x) | none => upO bf x none) x = none := by
    cases e : h (n % 8) with
    | none => exact upO_s _ _ _
    | some v =>
      have := ne v (R.hd _ v e).1
      show upO (upO bf x none) v (some x) x = none
      rw [upO_n _ _ (Ne.symm this), upO_s]
  refine ⟨?_, ?_, ?_, ?_⟩
  · rintro w (e | hw')
    · subst e; exact ⟨hx, by rw [upO_s]; omega⟩
    · have := R.lt w hw'
      rw [upO_n _ _ (ne w hw')]
      exact ⟨this.1, by omega⟩
  · intro k w hk
    by_cases e : k = n % 8
    · subst e
      rw [upO_s] at hk
      injection hk with hk
      subst hk
      exact ⟨Or.inl rfl, by rw [upO_s], hbx⟩
    · rw [upO_n _ _ e] at hk
      obtain ⟨w1, w2, w3⟩ := R.hd k w hk
      refine ⟨Or.inr w1, by rw [upO_n _ _ (ne w w1)]; exact w2, ?_⟩
      cases e2 : h (n % 8) with
      | none => show upO bf x none w = none; rw [upO_n _ _ (ne w w1)]; exact w3
      | some v =>
        show upO (upO bf x none) v (some x) w = none
        have : w ≠ v := by
          intro z
          subst z
          have := (R.hd _ w e2).2.1
          omega
        rw [upO_n _ _ this, upO_n _ _ (ne w w1)]; exact w3
  · rintro w v (e | hw') hv
    · subst e
      rw [upO_s] at hv
      obtain ⟨v1, v2, v3⟩ := R.hd _ v hv
      refine ⟨Or.inr v1, ?_, by rw [upO_n _ _ (ne v v1), upO_s]; exact v2, by rw [upO_n _ _ (ne v v1), upO_s]; exact (R.lt v v1).2⟩
      rw [hv]
      show upO (upO bf w none) v (some w) v = some w
      rw [upO_s]
    · rw [upO_n _ _ (ne w hw')] at hv
      obtain ⟨v1, v2, v3, v4⟩ := R.nxt w v hw' hv
      refine ⟨Or.inr v1, ?_, by rw [upO_n _ _ (ne v v1), upO_n _ _ (ne w hw')]; exact v3, by rw [upO_n _ _ (ne v v1), upO_n _ _ (ne w hw')]; exact v4⟩
      cases e2 : h (n % 8) with
      | none => show upO bf x none v = some w; rw [upO_n _ _ (ne v v1)]; exact v2
      | some u =>
        show upO (upO bf x none) u (some x) v = some w
        have : v ≠ u := by
          intro z
          subst z
          have := (R.hd _ v e2).2.2
          rw [v2] at this
          cases this
        rw [upO_n _ _ this, upO_n _ _ (ne v v1)]; exact v2
  · rintro w (e | hw')
    · subst e
      exact Or.inl ⟨hbx, by rw [upO_s, upO_s]⟩
    · rw [upO_n f _ (ne w hw')]
      rcases R.bef w hw' with ⟨z1, z2⟩ | ⟨u, u1, u2, u3⟩
      · by_cases e : f w % 8 = n % 8
        · refine Or.inr ⟨x, ?_, Or.inl rfl, ?_⟩
          · rw [← e, z2]
            show upO (upO bf x none) w (some x) w = some x
            rw [upO_s]
          · rw [upO_s, ← e, z2]
        · refine Or.inl ⟨?_, by rw [upO_n _ _ e]; exact z2⟩
          cases e2 : h (n % 8) with
          | none => show upO bf x none w = none; rw [upO_n _ _ (ne w hw')]; exact z1
          | some v =>
            show upO (upO bf x none) v (some x) w = none
            have : w ≠ v := by
              intro z
              subst z
              have := (R.hd _ w e2).2.1
              omega
            rw [upO_n _ _ this, upO_n _ _ (ne w hw')]; exact z1
      · refine Or.inr ⟨u, ?_, Or.inr u2, by rw [upO_n _ _ (ne u u2)]; exact u3⟩
        cases e2 : h (n % 8) with
        | none => show upO bf x none w = some u; rw [upO_n _ _ (ne w hw')]; exact u1
        | some v =>
          show upO (upO bf x none) v (some x) w = some u
          have : w ≠ v := by
            intro z
            subst z
            have := (R.hd _ w e2).2.2
            rw [u1] at this
            cases this
          rw [upO_n _ _ this, upO_n _ _ (ne w hw')]; exact u1
theorem rng.pop (R : rng W t T f h nx bf) {x : Nat} (hx : W x) : rng (fun y => y ≠ x ∧ W y) t T f (match bf x with | some _ => h | none => upO h (f x % 8) (nx x)) (match bf x with | some u => upO nx u (nx x) | none => nx) (match nx x with | some v => upO bf v (bf x) | none => bf) := by
  have hbv : ∀ w, W w → w ≠ x → nx x ≠ some w → (match nx x with | some v => upO bf v (bf x) | none => bf) w = bf w := by
    intro w hw ne hn
    cases e : nx x with
    | none => rfl
    | some v =>
      show upO bf v (bf x) w = bf w
      rw [upO_n]
      intro z
      subst z
      exact hn e
  have hbn : ∀ w, nx x = some w → (match nx x with | some v => upO bf v (bf x) | none => bf) w = bf x := by
    intro w hn
    rw [hn]
    exact upO_s _ _ _
  have hnx : ∀ w, W w → w ≠ x → bf x ≠ some w → (match bf x with | some u => upO nx u (nx x) | none => nx) w = nx w := by
    intro w hw ne hn
    cases e : bf x with
    | none => rfl
    | some v =>
      show upO nx v (nx x) w = nx w
      rw [upO_n]
      intro z
      subst z
      exact hn e
  have hnb : ∀ w, bf x = some w → (match bf x with | some u => upO nx u (nx x) | none => nx) w = nx x := by
    intro w hn
    rw [hn]
    exact upO_s _ _ _
  refine ⟨fun w hw => R.lt w hw.2, ?_, ?_, ?_⟩
  · intro k w hk
    cases e : bf x with
    | none =>
      rw [e] at hk
      replace hk : upO h (f x % 8) (nx x) k = some w := hk
      by_cases e2 : k = f x % 8
      · subst e2
        rw [upO_s] at hk
        obtain ⟨w1, w2, w3, w4⟩ := R.nxt x w hx hk
        refine ⟨⟨?_, w1⟩, w3, ?_⟩
        · intro z; subst z; omega
        · have := hbn w hk
          rw [e] at this
          exact this
      · rw [upO_n _ _ e2] at hk
        obtain ⟨w1, w2, w3⟩ := R.hd k w hk
        have ne : w ≠ x := by intro z; subst z; exact e2 w2.symm
        refine ⟨⟨ne, w1⟩, w2, ?_⟩
        rw [← e]
        rw [hbv w w1 ne, w3, e]
        intro z
        have := (R.nxt x w hx z).2.1
        rw [w3] at this
        cases this
    | some u =>
      rw [e] at hk
      replace hk : h k = some w := hk
      obtain ⟨w1, w2, w3⟩ := R.hd k w hk
      have ne : w ≠ x := by intro z; subst z; rw [w3] at e; cases e
      refine ⟨⟨ne, w1⟩, w2, ?_⟩
      rw [← e, hbv w w1 ne, w3]
      intro z
      have := (R.nxt x w hx z).2.1
      rw [w3] at this
      cases this
  · rintro w v ⟨ne, hw⟩ hv
    by_cases e : bf x = some w
    · rw [hnb w e] at hv
      obtain ⟨v1, v2, v3, v4⟩ := R.nxt x v hx hv
      have u3 : nx w = some x := by
        rcases R.bef x hx with ⟨z, -⟩ | ⟨u, u1, u2, u3⟩
        · rw [z] at e; cases e
        · rw [u1] at e; injection e with e; subst e; exact u3
      obtain ⟨-, -, y3, y4⟩ := R.nxt w x hw u3
      refine ⟨⟨by intro z; subst z; omega, v1⟩, by rw [hbn v hv, e], by omega, by omega⟩
    · rw [hnx w hw ne e] at hv
      obtain ⟨v1, v2, v3, v4⟩ := R.nxt w v hw hv
      have ne2 : v ≠ x := by intro z; subst z; exact e v2
      refine ⟨⟨ne2, v1⟩, ?_, v3, v4⟩
      rw [hbv v v1 ne2, v2]
      intro z
      have := (R.nxt x v hx z).2.1
      rw [v2] at this
      injection this with this
      exact ne this
  · rintro w ⟨ne, hw⟩
    by_cases e : nx x = some w
    · rw [hbn w e]
      obtain ⟨v1, v2, v3, v4⟩ := R.nxt x w hx e
      rcases R.bef x hx with ⟨z1, z2⟩ | ⟨u, u1, u2, u3⟩
      · refine Or.inl ⟨z1, ?_⟩
        rw [z1]
        show upO h (f x % 8) (nx x) (f w % 8) = some w
        rw [v3, upO_s, e]
      · obtain ⟨-, -, -, y4⟩ := R.nxt u x u2 u3
        refine Or.inr ⟨u, u1, ⟨by intro z; subst z; omega, u2⟩, ?_⟩
        rw [hnb u u1, e]
    · rw [hbv w hw ne e]
      rcases R.bef w hw with ⟨z1, z2⟩ | ⟨u, u1, u2, u3⟩
      · refine Or.inl ⟨z1, ?_⟩
        cases e3 : bf x with
        | some u => exact z2
        | none =>
          show upO h (f x % 8) (nx x) (f w % 8) = some w
          rw [upO_n]
          · exact z2
          · intro z
            rcases R.bef x hx with ⟨-, y⟩ | ⟨u, u1, -⟩
            · rw [← z, z2] at y
              injection y with y
              exact ne y
            · rw [u1] at e3; cases e3
      · have nu : u ≠ x := by intro z; subst z; exact e u3
        refine Or.inr ⟨u, u1, ⟨nu, u2⟩, ?_⟩
        rw [hnx u u2 nu]
        · exact u3
        · intro z
          rcases R.bef x hx with ⟨y, -⟩ | ⟨u', u1', u2', u3'⟩
          · rw [y] at z; cases z
          · rw [u1'] at z
            injection z with z
            subst z
            rw [u3'] at u3
            injection u3 with u3
            exact ne u3.symm
end RNG
end LEADB
