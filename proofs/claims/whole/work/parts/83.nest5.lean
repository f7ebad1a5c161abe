/-! PLATES: the list of a plate's cells in the reference -/
def celP (pl : Nat → Nat → Prop) (W H t : Nat) (dn : Nat → Nat → Prop) (n : Nat) (J : Nat → Nat → Int32) : Prop := J 0 99 = nI n ∧ (∀ k, k < n → ∃ i j, pl i j ∧ J 55 k = nI (tnX W H t i j) ∧ J 56 k = nI (tnY W H t i j)) ∧ ∀ i j, pl i j → dn i j → ∃ k, k < n ∧ J 55 k = nI (tnX W H t i j) ∧ J 56 k = nI (tnY W H t i j)
def frT (J J' : Nat → Nat → Int32) : Prop := (∀ c, c ≠ 0 → c ≠ 55 → c ≠ 56 → J' c = J c) ∧ ∀ f, f ≠ 99 → J' 0 f = J 0 f
theorem frT.tr {I I' I'' : Nat → Nat → Int32} (a : frT I I') (b : frT I' I'') : frT I I'' := ⟨fun c x y z => (b.1 c x y z).trans (a.1 c x y z), fun f x => (b.2 f x).trans (a.2 f x)⟩
def adJ (J : Nat → Nat → Int32) (n x y : Nat) : Nat → Nat → Int32 := j_up (j_up (j_up J 55 n (nI x)) 56 n (nI y)) 0 99 (nI (n + 1))
theorem adJ_fr (J : Nat → Nat → Int32) (n x y : Nat) : frT J (adJ J n x y) := ⟨fun c a b z => by unfold adJ; rw [j_up_cell _ a, j_up_cell _ z, j_up_cell _ b], fun f q => by unfold adJ; rw [j_up_own, if_neg q, j_up_cell _ (by decide), j_up_cell _ (by decide)]⟩
theorem adJ_in {pl : Nat → Nat → Prop} {W H t n i j : Nat} {dn dn' : Nat → Nat → Prop} {J : Nat → Nat → Int32} (C : celP pl W H t dn n J) (hp : pl i j) (hd : ∀ i' j', dn' i' j' → dn i' j' ∨ (i' = i ∧ j' = j)) : celP pl W H t dn' (n + 1) (adJ J n (tnX W H t i j) (tnY W H t i j)) := by
  obtain ⟨c0, c1, c2⟩ := C
  have r5 : ∀ k, adJ J n (tnX W H t i j) (tnY W H t i j) 55 k = if k = n then nI (tnX W H t i j) else J 55 k := fun k => by unfold adJ; rw [j_up_cell _ (by decide), j_up_cell _ (by decide), j_up_own]
  have r6 : ∀ k, adJ J n (tnX W H t i j) (tnY W H t i j) 56 k = if k = n then nI (tnY W H t i j) else J 56 k := fun k => by unfold adJ; rw [j_up_cell _ (by decide), j_up_own, j_up_cell _ (by decide)]
  refine ⟨by unfold adJ; rw [j_up_self], fun k hk => ?_, fun i' j' a b => ?_⟩
  · rw [r5, r6]
    by_cases q : k = n
    · rw [if_pos q, if_pos q]
      exact ⟨i, j, hp, rfl, rfl⟩
    · rw [if_neg q, if_neg q]
      exact c1 k (by omega)
  · rcases hd i' j' b with z | ⟨rfl, rfl⟩
    · obtain ⟨k, hk, k1, k2⟩ := c2 i' j' a z
      refine ⟨k, by omega, ?_, ?_⟩
      · rw [r5, if_neg (by omega)]; exact k1
      · rw [r6, if_neg (by omega)]; exact k2
    · exact ⟨n, by omega, by rw [r5, if_pos rfl], by rw [r6, if_pos rfl]⟩
section NEST5
variable {d e : Nat} {L L' : Nat → Nat → Int64} {pa pb pu pw : Option Nat} {K : Option Value → jS → jO} {W H : Nat} {v : Nat → Int32}
theorem tn_add {J : Nat → Nat → Int32} (G : plIn (plV v) W H) {k t i j n : Nat} (ht : t < 4) (hp : plV v i j) (h0 : J 0 99 = nI n) (hn : n < 288) (hv : J 6 (600 + k * 14 + j) = v j) (hk : k < 8) : jv (e + 1) 332 127 [some (.ref 0), some (.int (nI k)), some (.int (nI t)), some (.int (nI W)), some (.int (nI H)), some (.int (nI j)), some (.int (nI i))] [.int (nI (600 + k * 14 + j)), .ref 6] (shR, J, L', pR) = jv (e + 1) 332 107 [some (.ref 0), some (.int (nI k)), some (.int (nI t)), some (.int (nI W)), some (.int (nI H)), some (.int (nI j)), some (.int (nI (i + 1)))] [] (shR, adJ J n (tnX W H t i j) (tnY W H t i j), L', pR) := by
  obtain ⟨b1, b2⟩ := G.2.2.1 i j hp
  obtain ⟨p1, p2, p3⟩ := hp
  have a9 : ∀ x : Int32, j_up J 55 n x 0 99 = nI n := fun x => by rw [j_up_cell _ (by decide), h0]
  have a8 : ∀ x y : Int32, j_up (j_up J 55 n x) 56 n y 0 99 = nI n := fun x y => by rw [j_up_cell _ (by decide), a9]
  have fin : ∀ x y : Nat, jv (e + 1) 332 226 [some (.ref 0), some (.int (nI k)), some (.int (nI t)), some (.int (nI W)), some (.int (nI H)), some (.int (nI j)), some (.int (nI i))] [.int (nI y), .int (nI n), .ref 56] (shR, j_up J 55 n (nI x), L', pR) = jv (e + 1) 332 107 [some (.ref 0), some (.int (nI k)), some (.int (nI t)), some (.int (nI W)), some (.int (nI H)), some (.int (nI j)), some (.int (nI (i + 1)))] [] (shR, adJ J n x y, L', pR) := fun x y => by
    rw [B332_226, if_pos (j_in_nI hn (by decide)), nI_clamp (n := n) (by omega), a8, nI_1 n, B332_237, nI_1 i]
    rfl
  have sj : nI H - nI j = nI (H - j) := nI_sub b2
  have si : nI W - nI i = nI (W - i) := nI_sub b1
  rw [B332_127, if_pos (j_in_nI (by omega) (by decide)), nI_clamp (n := 600 + k * 14 + j) (by omega), hv, if_pos ((ibit_1 (by omega)).mpr p3), h0]
  rcases (show t = 0 ∨ t = 1 ∨ t = 2 ∨ t = 3 by omega) with rfl | rfl | rfl | rfl
  · rw [if_pos (by decide), B332_181, if_pos (j_in_nI hn (by decide)), if_pos (by decide), nI_clamp (n := n) (by omega), a9]
    exact fin i j
  · rw [if_neg (by decide), if_pos (by decide), sj, B332_181, if_pos (j_in_nI hn (by decide)), if_neg (by decide), if_pos (by decide), nI_clamp (n := n) (by omega), a9]
    exact fin (H - j) i
  · rw [if_neg (by decide), if_neg (by decide), if_pos (by decide), si, B332_181, if_pos (j_in_nI hn (by decide)), if_neg (by decide), if_neg (by decide), if_pos (by decide), nI_clamp (n := n) (by omega), a9, sj]
    exact fin (W - i) (H - j)
  · rw [if_neg (by decide), if_neg (by decide), if_neg (by decide), B332_181, if_pos (j_in_nI hn (by decide)), if_neg (by decide), if_neg (by decide), if_neg (by decide), nI_clamp (n := n) (by omega), a9, si]
    exact fin j (W - i)
theorem rCst_eq1 {J J' : Nat → Nat → Int32} (h : rCst J) (e : ∀ c, c ≠ 0 → c < 6 → J' c = J c) : rCst J' := by
  obtain ⟨h1, h2, h3, h4, h5⟩ := h
  exact ⟨fun t ht => by rw [e 1 (by decide) (by decide)]; exact h1 t ht, fun t ht => by rw [e 2 (by decide) (by decide)]; exact h2 t ht, fun t ht => by rw [e 3 (by decide) (by decide)]; exact h3 t ht, fun t ht => by rw [e 4 (by decide) (by decide)]; exact h4 t ht, fun t ht => by rw [e 5 (by decide) (by decide)]; exact h5 t ht⟩
theorem celP.mono {pl : Nat → Nat → Prop} {W H t n : Nat} {dn dn' : Nat → Nat → Prop} {J : Nat → Nat → Int32} (C : celP pl W H t dn n J) (h : ∀ i j, pl i j → dn' i j → dn i j) : celP pl W H t dn' n J := ⟨C.1, C.2.1, fun i j a b => C.2.2 i j a (h i j a b)⟩
theorem tn_cell {J0 J : Nat → Nat → Int32} (G : plIn (plV v) W H) (hr : rCst J0) {k t j i n : Nat} (hk : k < 8) (ht : t < 4) (hj : j < 12) (hi : i < 24) (hv : ∀ j, j < 12 → J0 6 (600 + k * 14 + j) = v j) (a1 : n ≤ 24 * j + i) (a2 : frT J0 J) (a3 : celP (plV v) W H t (doneN j i) n J) : ∃ n' J', n' ≤ 24 * j + (i + 1) ∧ frT J0 J' ∧ celP (plV v) W H t (doneN j (i + 1)) n' J' ∧ jv (e + 1) 332 107 [some (.ref 0), some (.int (nI k)), some (.int (nI t)), some (.int (nI W)), some (.int (nI H)), some (.int (nI j)), some (.int (nI i))] [] (shR, J, L', pR) = jv (e + 1) 332 107 [some (.ref 0), some (.int (nI k)), some (.int (nI t)), some (.int (nI W)), some (.int (nI H)), some (.int (nI j)), some (.int (nI (i + 1)))] [] (shR, J', L', pR) := by
  have hr' : rCst J := rCst_eq1 hr (fun c hc h6 => a2.1 c hc (by omega) (by omega))
  have hv' : J 6 (600 + k * 14 + j) = v j := by rw [a2.1 6 (by decide) (by decide) (by decide), hv j hj]
  have st : jv (e + 1) 332 107 [some (.ref 0), some (.int (nI k)), some (.int (nI t)), some (.int (nI W)), some (.int (nI H)), some (.int (nI j)), some (.int (nI i))] [] (shR, J, L', pR) = jv (e + 1) 332 127 [some (.ref 0), some (.int (nI k)), some (.int (nI t)), some (.int (nI W)), some (.int (nI H)), some (.int (nI j)), some (.int (nI i))] [.int (nI (600 + k * 14 + j)), .ref 6] (shR, J, L', pR) := by
    rw [B332_107, if_pos (show nI i < 24 from nI_lt (b := 24) hi (by decide)), g_plt_r hr']
    dsimp only [Option.toList_some, List.cons_append, List.nil_append]
  rw [st]
  by_cases hb : ibit i (v j)
  · exact ⟨n + 1, adJ J n (tnX W H t i j) (tnY W H t i j), by omega, a2.tr (adJ_fr _ _ _ _), adJ_in a3 ⟨hi, hj, hb⟩ (fun i' j' q => by unfold doneN at q ⊢; omega), tn_add G ht ⟨hi, hj, hb⟩ a3.1 (by omega) hv' hk⟩
  · refine ⟨n, J, by omega, a2, a3.mono (fun i' j' p q => ?_), ?_⟩
    · unfold doneN at q ⊢
      by_cases z : j' = j ∧ i' = i
      · obtain ⟨rfl, rfl⟩ := z
        exact absurd p.2.2 hb
      · omega
    · rw [B332_127, if_pos (j_in_nI (by omega) (by decide)), nI_clamp (n := 600 + k * 14 + j) (by omega), hv', if_neg (fun z => hb ((ibit_1 (by omega)).mp z)), B332_237, nI_1 i]
theorem tn_fill {J0 : Nat → Nat → Int32} (G : plIn (plV v) W H) (hr : rCst J0) {k t : Nat} (hk : k < 8) (ht : t < 4) (hv : ∀ j, j < 12 → J0 6 (600 + k * 14 + j) = v j) (hz : J0 0 99 = nI 0) (o6 : Option Value) : ∃ n J, n ≤ 288 ∧ frT J0 J ∧ celP (plV v) W H t (fun _ _ => True) n J ∧ jv (e + 1) 332 97 [some (.ref 0), some (.int (nI k)), some (.int (nI t)), some (.int (nI W)), some (.int (nI H)), some (.int (nI 0)), o6] [] (shR, J0, L', pR) = some (none, (shR, J, L', pR)) := by
  obtain ⟨⟨n, J, o⟩, ⟨h1, h2, h3⟩, h4⟩ := j_runP (fun j (q : Nat × (Nat → Nat → Int32) × Option Value) => jv (e + 1) 332 97 [some (.ref 0), some (.int (nI k)), some (.int (nI t)), some (.int (nI W)), some (.int (nI H)), some (.int (nI j)), q.2.2] [] (shR, q.2.1, L', pR)) (fun j q => q.1 ≤ 24 * j ∧ frT J0 q.2.1 ∧ celP (plV v) W H t (doneN j 0) q.1 q.2.1) 12 (fun j hj q hq => by
    obtain ⟨n, J, o⟩ := q
    obtain ⟨a1, a2, a3⟩ := hq
    dsimp only at a1 a2 a3 ⊢
    obtain ⟨⟨n', J'⟩, ⟨b1, b2, b3⟩, b4⟩ := j_runP (fun i (q : Nat × (Nat → Nat → Int32)) => jv (e + 1) 332 107 [some (.ref 0), some (.int (nI k)), some (.int (nI t)), some (.int (nI W)), some (.int (nI H)), some (.int (nI j)), some (.int (nI i))] [] (shR, q.2, L', pR)) (fun i q => q.1 ≤ 24 * j + i ∧ frT J0 q.2 ∧ celP (plV v) W H t (doneN j i) q.1 q.2) 24 (fun i hi q hq => by
      obtain ⟨n1, J1, c1, c2, c3, c4⟩ := tn_cell (e := e) (L' := L') G hr hk ht hj hi hv hq.1 hq.2.1 hq.2.2
      exact ⟨(n1, J1), ⟨c1, c2, c3⟩, c4⟩) (n, J) ⟨a1, a2, a3⟩
    dsimp only at b1 b2 b3 b4
    refine ⟨(n', J', some (.int (nI 24))), ⟨by show n' ≤ 24 * (j + 1); omega, b2, b3.mono (fun i' j' p q => by have := p.1; unfold doneN at q ⊢; omega)⟩, ?_⟩
    rw [B332_97, if_pos (show nI j < 12 from nI_lt (b := 12) hj (by decide))]
    refine b4.trans ?_
    rw [B332_107, if_neg (by decide), nI_1 j]) (0, J0, o6) ⟨Nat.le_refl _, ⟨fun _ _ _ _ => rfl, fun _ _ => rfl⟩, hz, fun k hk => absurd hk (Nat.not_lt_zero _), fun i j a b => by unfold doneN at b; omega⟩
  dsimp only at h1 h2 h3 h4
  refine ⟨n, J, by omega, h2, h3.mono (fun i j p _ => Or.inl p.2.1), h4.trans ?_⟩
  rw [B332_97, if_neg (by decide)]
/-- turned() of the reference -/
theorem tn_all {J : Nat → Nat → Int32} (G : plIn (plV v) W H) (hr : rCst J) {k t : Nat} (hk : k < 8) (ht : t < 4) (hv : ∀ j, j < 12 → J 6 (600 + k * 14 + j) = v j) : ∃ J', frT J J' ∧ celR (plV v) W H t J' ∧ jv (e + 1) 332 0 [some (.ref 0), some (.int (nI k)), some (.int (nI t)), none, none, none, none] [] (shR, J, L', pR) = some (none, (shR, J', L', pR)) := by
  obtain ⟨o6, h1⟩ := tn_max (e := e) (L' := L') (t := t) G hr hk hv
  have f0 : frT J (j_up J 0 99 0) := ⟨fun c a _ _ => by rw [j_up_cell _ a], fun f q => by rw [j_up_own, if_neg q]⟩
  obtain ⟨n, J', h2, h3, h4, h5⟩ := tn_fill (e := e) (L' := L') (t := t) G (rCst_eq1 hr (fun c hc h6 => f0.1 c hc (by omega) (by omega))) hk ht (fun j hj => by rw [f0.1 6 (by decide) (by decide) (by decide), hv j hj]) (by rw [j_up_self]; rfl) o6
  refine ⟨J', f0.tr h3, ⟨n, h2, h4.1, fun k => (J' 55 k).toNatClampNeg, fun k => (J' 56 k).toNatClampNeg, fun k hk => ?_, fun i j hp => ?_⟩, h1.trans h5⟩
  · obtain ⟨i, j, hp, c1, c2⟩ := h4.2.1 k hk
    obtain ⟨l1, l2⟩ := tn_lt G ht hp
    obtain ⟨m1, m2⟩ := wd_le (t := t) G
    dsimp only
    rw [c1, c2, nI_clamp (by omega), nI_clamp (by omega)]
    exact ⟨rfl, rfl, i, j, hp, rfl, rfl⟩
  · obtain ⟨l1, l2⟩ := tn_lt G ht hp
    obtain ⟨m1, m2⟩ := wd_le (t := t) G
    obtain ⟨k, hk, c1, c2⟩ := h4.2.2 i j hp trivial
    refine ⟨k, hk, ?_, ?_⟩
    · show (J' 55 k).toNatClampNeg = _
      rw [c1, nI_clamp (by omega)]
    · show (J' 56 k).toNatClampNeg = _
      rw [c2, nI_clamp (by omega)]
end NEST5
