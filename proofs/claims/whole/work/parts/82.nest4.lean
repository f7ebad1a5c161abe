/-! PLATES: a plate's cells, turned, in the reference -/
theorem j_runP {α β : Type} (A : Nat → α → β) (P : Nat → α → Prop) (n : Nat) (h : ∀ i, i < n → ∀ x, P i x → ∃ y, P (i + 1) y ∧ A i x = A (i + 1) y) (x : α) (hx : P 0 x) : ∃ y, P n y ∧ A 0 x = A n y := by
  obtain ⟨y, h1, h2, -⟩ := j_run2 A (fun _ _ => ()) P n (fun i hi x hp => by
    obtain ⟨y, a, b⟩ := h i hi x hp
    exact ⟨y, a, b, rfl⟩) x hx
  exact ⟨y, h1, h2⟩
/-- the cells of a plate's rows -/
def plV (v : Nat → Int32) : Nat → Nat → Prop := fun i j => i < 24 ∧ j < 12 ∧ ibit i (v j)
section NEST4
variable {d e : Nat} {I J : Nat → Nat → Int32} {L L' : Nat → Nat → Int64} {pa pb pu pw : Option Nat} {K : Option Value → jS → jO} {W H : Nat} {v : Nat → Int32}
theorem g_plt_c {k j : Nat} (hk : k < 8) (hj : j < 14) : jgo jTT jMM (d + 1) 51 [.ref 1, .int 7, .int (nI k), .int (nI j)] (shC, I, L, pX pa pb pu pw) K = K (some (.int (I 2 (600 + k * 14 + j)))) (shC, I, L, pX pa pb pu pw) := jgo_some rfl (of_1 (a := 7) (b := k) (c := j) (by decide) hk hj none)
theorem g_plt_r (hr : rCst J) (k j : Nat) : jgo jTT jMM (e + 1) 214 [.ref 0, .int 7, .int (nI k), .int (nI j)] (shR, J, L', pR) K = K (some (.int (nI (600 + k * 14 + j)))) (shR, J, L', pR) := jgo_some rfl (at_ok hr (t := 7) (by decide) k j)
/-- what the walk has seen -/
def doneN (j i : Nat) : Nat → Nat → Prop := fun i' j' => j' < j ∨ (j' = j ∧ i' < i)
def mxP (pl : Nat → Nat → Prop) (W H j i : Nat) (p : Nat × Nat) : Prop := p.1 ≤ W ∧ p.2 ≤ H ∧ ∀ i' j', pl i' j' → doneN j i i' j' → i' ≤ p.1 ∧ j' ≤ p.2
theorem tn_row (G : plIn (plV v) W H) (hr : rCst J) {k t j : Nat} (hk : k < 8) (hv : ∀ j, j < 12 → J 6 (600 + k * 14 + j) = v j) (hj : j < 12) (p : Nat × Nat) (hp : mxP (plV v) W H j 0 p) : ∃ p' : Nat × Nat, mxP (plV v) W H j 24 p' ∧ jv (e + 1) 332 18 [some (.ref 0), some (.int (nI k)), some (.int (nI t)), some (.int (nI p.1)), some (.int (nI p.2)), some (.int (nI j)), some (.int (nI 0))] [] (shR, J, L', pR) = jv (e + 1) 332 18 [some (.ref 0), some (.int (nI k)), some (.int (nI t)), some (.int (nI p'.1)), some (.int (nI p'.2)), some (.int (nI j)), some (.int (nI 24))] [] (shR, J, L', pR) := by
  refine j_runP (fun i (p : Nat × Nat) => jv (e + 1) 332 18 [some (.ref 0), some (.int (nI k)), some (.int (nI t)), some (.int (nI p.1)), some (.int (nI p.2)), some (.int (nI j)), some (.int (nI i))] [] (shR, J, L', pR)) (fun i p => mxP (plV v) W H j i p) 24 (fun i hi p hp => ?_) p hp
  obtain ⟨g1, g2, g3, -⟩ := id G
  obtain ⟨a1, a2, a3⟩ := hp
  have k0 : jv (e + 1) 332 18 [some (.ref 0), some (.int (nI k)), some (.int (nI t)), some (.int (nI p.1)), some (.int (nI p.2)), some (.int (nI j)), some (.int (nI i))] [] (shR, J, L', pR) = if (((v j) >>> (nI i &&& 31)) &&& 1) = 1 then (if nI p.1 < nI i then jv (e + 1) 332 60 [some (.ref 0), some (.int (nI k)), some (.int (nI t)), some (.int (nI p.1)), some (.int (nI p.2)), some (.int (nI j)), some (.int (nI i))] [.int (nI i)] (shR, J, L', pR) else jv (e + 1) 332 60 [some (.ref 0), some (.int (nI k)), some (.int (nI t)), some (.int (nI p.1)), some (.int (nI p.2)), some (.int (nI j)), some (.int (nI i))] [.int (nI p.1)] (shR, J, L', pR)) else jv (e + 1) 332 77 [some (.ref 0), some (.int (nI k)), some (.int (nI t)), some (.int (nI p.1)), some (.int (nI p.2)), some (.int (nI j)), some (.int (nI i))] [] (shR, J, L', pR) := by
    rw [B332_18, if_pos (show nI i < 24 from nI_lt (b := 24) hi (by decide)), g_plt_r hr]
    dsimp only [Option.toList_some, List.cons_append, List.nil_append]
    rw [B332_38, if_pos (j_in_nI (by omega) (by decide)), nI_clamp (by omega), hv j hj]
  rw [k0]
  by_cases hb : ibit i (v j)
  · rw [if_pos ((ibit_1 (by omega)).mpr hb)]
    obtain ⟨b1, b2⟩ := g3 i j ⟨hi, hj, hb⟩
    refine ⟨(mxN p.1 i, mxN p.2 j), ⟨by show mxN p.1 i ≤ W; unfold mxN; split <;> omega, by show mxN p.2 j ≤ H; unfold mxN; split <;> omega, fun i' j' c1 c2 => ?_⟩, ?_⟩
    · unfold doneN at c2
      have m1 : p.1 ≤ mxN p.1 i ∧ i ≤ mxN p.1 i := by unfold mxN; split <;> omega
      have m2 : p.2 ≤ mxN p.2 j ∧ j ≤ mxN p.2 j := by unfold mxN; split <;> omega
      by_cases q : j' = j ∧ i' = i
      · dsimp only; omega
      · have := a3 i' j' c1 (by unfold doneN; omega)
        dsimp only
        omega
    · have st : ∀ z : Nat, jv (e + 1) 332 60 [some (.ref 0), some (.int (nI k)), some (.int (nI t)), some (.int (nI p.1)), some (.int (nI p.2)), some (.int (nI j)), some (.int (nI i))] [.int (nI z)] (shR, J, L', pR) = jv (e + 1) 332 18 [some (.ref 0), some (.int (nI k)), some (.int (nI t)), some (.int (nI z)), some (.int (nI (mxN p.2 j))), some (.int (nI j)), some (.int (nI (i + 1)))] [] (shR, J, L', pR) := fun z => by
        rw [B332_60]
        unfold mxN
        by_cases q : p.2 < j
        · rw [if_pos (nI_lt q (by omega)), B332_75, B332_77, nI_1 i, if_pos q]
        · rw [if_neg (nI_nlt (by omega) (by omega)), B332_75, B332_77, nI_1 i, if_neg q]
      rw [st, st]
      show _ = jv (e + 1) 332 18 [some (.ref 0), some (.int (nI k)), some (.int (nI t)), some (.int (nI (mxN p.1 i))), some (.int (nI (mxN p.2 j))), some (.int (nI j)), some (.int (nI (i + 1)))] [] (shR, J, L', pR)
      by_cases q : p.1 < i
      · rw [if_pos (nI_lt q (by omega)), show mxN p.1 i = i by unfold mxN; rw [if_pos q]]
      · rw [if_neg (nI_nlt (by omega) (by omega)), show mxN p.1 i = p.1 by unfold mxN; rw [if_neg q]]
  · rw [if_neg (fun z => hb ((ibit_1 (by omega)).mp z)), B332_77, nI_1 i]
    refine ⟨p, ⟨a1, a2, fun i' j' c1 c2 => ?_⟩, rfl⟩
    refine a3 i' j' c1 ?_
    unfold doneN at c2 ⊢
    by_cases q : j' = j ∧ i' = i
    · obtain ⟨rfl, rfl⟩ := q
      exact absurd c1.2.2 hb
    · omega
theorem tn_max (G : plIn (plV v) W H) (hr : rCst J) {k t : Nat} (hk : k < 8) (hv : ∀ j, j < 12 → J 6 (600 + k * 14 + j) = v j) : ∃ o6 : Option Value, jv (e + 1) 332 0 [some (.ref 0), some (.int (nI k)), some (.int (nI t)), none, none, none, none] [] (shR, J, L', pR) = jv (e + 1) 332 97 [some (.ref 0), some (.int (nI k)), some (.int (nI t)), some (.int (nI W)), some (.int (nI H)), some (.int (nI 0)), o6] [] (shR, j_up J 0 99 0, L', pR) := by
  obtain ⟨⟨p, o6⟩, ⟨h1, h2, h3⟩, h4⟩ := j_runP (fun j (q : (Nat × Nat) × Option Value) => jv (e + 1) 332 8 [some (.ref 0), some (.int (nI k)), some (.int (nI t)), some (.int (nI q.1.1)), some (.int (nI q.1.2)), some (.int (nI j)), q.2] [] (shR, J, L', pR)) (fun j q => mxP (plV v) W H j 0 q.1) 12 (fun j hj q hq => by
    obtain ⟨p', b1, b2⟩ := tn_row (e := e) (L' := L') (t := t) G hr hk hv hj q.1 hq
    refine ⟨(p', some (.int (nI 24))), ⟨b1.1, b1.2.1, fun i' j' c1 c2 => ?_⟩, ?_⟩
    · refine b1.2.2 i' j' c1 ?_
      have := c1.1
      unfold doneN at c2 ⊢
      omega
    · rw [B332_8, if_pos (show nI j < 12 from nI_lt (b := 12) hj (by decide))]
      refine b2.trans ?_
      rw [B332_18, if_neg (by decide), nI_1 j]) ((0, 0), none) ⟨Nat.zero_le _, Nat.zero_le _, fun i' j' c1 c2 => by unfold doneN at c2; omega⟩
  obtain ⟨-, -, -, ⟨j1, g1⟩, ⟨i1, g2⟩, -⟩ := id G
  have w1 : p.1 = W := by
    have := (h3 W j1 g1 (Or.inl g1.2.1)).1
    dsimp only at h1 this
    omega
  have w2 : p.2 = H := by
    have := (h3 i1 H g2 (Or.inl g2.2.1)).2
    dsimp only at h2 this
    omega
  refine ⟨o6, ?_⟩
  rw [B332_0]
  refine h4.trans ?_
  dsimp only
  rw [B332_8, if_neg (by decide), w1, w2]
  rfl
end NEST4
