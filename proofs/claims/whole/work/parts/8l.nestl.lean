/-! PLATES: all rounds of the reference's listing -/
def psN (cn : Nat → Nat) (od : Nat → Nat) (r : Nat) : Nat := smN (fun r => cn (od r)) r
def dnN (J : Nat → Nat → Int32) : Nat → Nat := fun k => if J 57 k = 0 then 0 else 1
def preN (a : Nat → Nat → Nat) (b k : Nat) : Prop := cellN (a k) 12 < cellN (a b) 12 ∨ (cellN (a k) 12 = cellN (a b) 12 ∧ b ≤ k)
def lsIn (a : Nat → Nat → Nat) (cn : Nat → Nat) (od : Nat → Nat) (r : Nat) (J : Nat → Nat → Int32) : Prop := smN (dnN J) 8 = r ∧ J 0 88 = nI (psN cn od r) ∧ (∀ r', r' < r → od r' < 8 ∧ ¬ J 57 (od r') = 0 ∧ ∀ i, i < cn (od r') → J 48 (psN cn od r' + i) = nI (od r')) ∧ (∀ k, k < 8 → ¬ J 57 k = 0 → ∃ r', r' < r ∧ od r' = k) ∧ (∀ r' r'', r' < r'' → r'' < r → od r' ≠ od r'') ∧ ∀ r', r' < r → ∀ k, k < 8 → (J 57 k = 0 ∨ ∃ r'', r' ≤ r'' ∧ r'' < r ∧ od r'' = k) → preN a (od r') k
theorem sm_full {f : Nat → Nat} {n : Nat} (h : ∀ i, i < n → f i = 1) : smN f n = n := by
  induction n with
  | zero => rfl
  | succ n ih => show smN f n + f n = n + 1; rw [ih (fun i hi => h i (by omega)), h n (by omega)]
theorem ps_le {cn od : Nat → Nat} {r : Nat} (h : ∀ r', r' < r → cn (od r') ≤ 4) : psN cn od r ≤ r * 4 := smN_le _ 4 r h
theorem ps_mono {cn od : Nat → Nat} {r r' : Nat} (h : r' < r) : psN cn od r' + cn (od r') ≤ psN cn od r := by
  induction r with
  | zero => omega
  | succ r ih =>
    show _ ≤ psN cn od r + cn (od r)
    by_cases e : r' = r
    · rw [e]; exact Nat.le_refl _
    · have := ih (by omega)
      omega
section NESTL
variable {e : Nat} {L' : Nat → Nat → Int64} {a : Nat → Nat → Nat} {cn : Nat → Nat}
def frG (J J' : Nat → Nat → Int32) : Prop := (∀ c, c ≠ 0 → c ≠ 48 → c ≠ 57 → J' c = J c) ∧ ∀ f, f ≠ 88 → J' 0 f = J 0 f
theorem list_step {J0 J : Nat → Nat → Int32} (hr0 : rCst J0) (ha0 : ∀ k, k < 8 → ∀ j, j < 12 → a k j < 2 ^ 24 ∧ J0 6 (600 + k * 14 + j) = nI (a k j)) (hc0 : ∀ k, k < 8 → cn k ≤ 4 ∧ J0 6 (600 + k * 14 + 12) = nI (cn k)) {r : Nat} {od : Nat → Nat} (hr8 : r < 8) (f : frG J0 J) (S : lsIn a cn od r J) (o3 o4 : Option Value) : ∃ od' J', (∀ r', r' < r → od' r' = od r') ∧ frG J0 J' ∧ lsIn a cn od' (r + 1) J' ∧ ∃ z3 z4 : Option Value, jv (e + 2) 331 30 [some (.ref 0), some (.ref 57), some (.int (nI r)), o3, o4] [] (shR, J, L', pR) = jv (e + 2) 331 30 [some (.ref 0), some (.ref 57), some (.int (nI (r + 1))), z3, z4] [] (shR, J', L', pR) := by
  obtain ⟨s1, s2, s3, s4, s5, s6⟩ := S
  have j6 : J 6 = J0 6 := f.1 6 (by decide) (by decide) (by decide)
  have hx : ∃ k, k < 8 ∧ J 57 k = 0 := by
    apply Classical.byContradiction
    intro z
    have := sm_full (f := dnN J) (n := 8) (fun k hk => by unfold dnN; rw [if_neg (fun u => z ⟨k, hk, u⟩)])
    omega
  have hps : psN cn od r ≤ r * 4 := ps_le (fun r' h => (hc0 _ (s3 r' h).1).1)
  obtain ⟨b, J', b1, b2, b3, b4, b5, b6, b7, b8, b9, z3, z4, b10⟩ := round_r (e := e) (L' := L') (a := a) (cn := cn) (rCst_eq1 hr0 (fun c hc h6 => f.1 c hc (by omega) (by omega))) (fun k hk j hj => by rw [j6]; exact ha0 k hk j hj) (fun k hk => by rw [j6]; exact hc0 k hk) hr8 s2 (by omega) hx o3 o4
  have odn : ∀ r', r' < r → od r' ≠ b := fun r' h z => (s3 r' h).2.1 (by rw [z]; exact b2)
  have oe : ∀ r', r' < r → (fun i => if i = r then b else od i) r' = od r' := fun r' h => if_neg (by omega)
  have or' : (fun i => if i = r then b else od i) r = b := if_pos rfl
  have pe : ∀ r', r' ≤ r → psN cn (fun i => if i = r then b else od i) r' = psN cn od r' := fun r' h => smN_ext (fun i hi => by
    show cn (if i = r then b else od i) = cn (od i)
    rw [if_neg (by omega)])
  have d0 : ∀ k, k < 8 → (J' 57 k = 0 ↔ J 57 k = 0 ∧ k ≠ b) := fun k hk => by
    rw [b4]
    by_cases z : k = b
    · rw [if_pos z]
      constructor
      · intro u; exact absurd u (by decide)
      · intro u; exact absurd z u.2
    · rw [if_neg z]
      exact ⟨fun u => ⟨u, z⟩, fun u => u.1⟩
  refine ⟨fun i => if i = r then b else od i, J', oe, ⟨fun c h1 h2 h3 => (b8 c h1 h2 h3).trans (f.1 c h1 h2 h3), fun g hg => (b9 g hg).trans (f.2 g hg)⟩, ⟨?_, ?_, fun r' h => ?_, fun k hk z => ?_, fun r' r'' h1 h2 => ?_, fun r' h k hk z => ?_⟩, z3, z4, b10⟩
  · have := smN_put (f := dnN J) (f' := dnN J') (p := b) (by unfold dnN; rw [if_pos b2]) (by unfold dnN; rw [b4, if_pos rfl]; rfl) (fun i hi => by unfold dnN; rw [b4, if_neg hi]) b1
    omega
  · rw [b5]
    congr 1
    show _ = psN cn (fun i => if i = r then b else od i) r + cn ((fun i => if i = r then b else od i) r)
    rw [pe r (Nat.le_refl _), or']
  · by_cases z : r' = r
    · subst z
      rw [or', pe r' (Nat.le_refl _)]
      exact ⟨b1, by rw [b4, if_pos rfl]; decide, b7⟩
    · rw [oe r' (by omega), pe r' (by omega)]
      obtain ⟨u1, u2, u3⟩ := s3 r' (by omega)
      refine ⟨u1, fun w => u2 (((d0 _ u1).mp w).1), fun i hi => ?_⟩
      have := ps_mono (cn := cn) (od := od) (show r' < r by omega)
      rw [b6 _ (by omega)]
      exact u3 i hi
  · by_cases w : k = b
    · exact ⟨r, by omega, by rw [or', w]⟩
    · obtain ⟨r', h1, h2⟩ := s4 k hk (fun u => z ((d0 k hk).mpr ⟨u, w⟩))
      exact ⟨r', by omega, by rw [oe r' h1, h2]⟩
  · rw [oe r' (by omega)]
    by_cases w : r'' = r
    · rw [w, or']
      exact odn r' (by omega)
    · rw [oe r'' (by omega)]
      exact s5 r' r'' h1 (by omega)
  · by_cases w : r' = r
    · subst w
      rw [or']
      rcases z with z | ⟨r'', z1, z2, z3⟩
      · exact b3 k hk ((d0 k hk).mp z).1
      · rw [show r'' = r' by omega, or'] at z3
        rw [← z3]
        exact Or.inr ⟨rfl, Nat.le_refl _⟩
    · rw [oe r' (by omega)]
      refine s6 r' (by omega) k hk ?_
      rcases z with z | ⟨r'', z1, z2, z3⟩
      · exact Or.inl ((d0 k hk).mp z).1
      · by_cases u : r'' = r
        · rw [u, or'] at z3
          exact Or.inl (by rw [← z3]; exact b2)
        · rw [oe r'' (by omega)] at z3
          exact Or.inr ⟨r'', z1, by omega, z3⟩
end NESTL
