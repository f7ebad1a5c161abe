/-! WORK PLANNED in the reference: a whole schedule -/
section PLANS
variable {e : Nat} {J : Nat → Nat → Int32} {L' : Nat → Nat → Int64} {dy hd cr fs : Nat → Nat} {bt : Nat → Int32} {HA CA : Nat} {o D : Nat → Nat} {many : Nat} {done : Int32}
theorem sch_0 (l1 : Int32) : jv e 358 0 [some (.ref 0), some (.int l1), none, none, none, none, none, none, none] [] (shR, J, L', pR) = jv e 358 33 [some (.ref 0), some (.int l1), some (.int 0), some (.int 0), none, none, none, none, none] [] (shR, va_up (va_up J 76 (j_fill (J 76) (fun _ => 0) 400)) 77 (j_fill (J 77) (fun _ => 0) 400), L', pR) := by
  rw [B358_0]
  have h := j_run (fun i => jv e 358 2 [some (.ref 0), some (.int l1), some (.int (nI i)), none, none, none, none, none, none] [] (shR, va_up (va_up J 76 (j_fill (J 76) (fun _ => 0) i)) 77 (j_fill (J 77) (fun _ => 0) i), L', pR)) 400 (fun i hi => by
    show jv e 358 2 _ _ _ = jv e 358 2 _ _ _
    have jx : j_in (nI i) 400 = true := j_in_nI hi (by decide)
    rw [B358_2, if_pos (show nI i < (400 : Int32) from nI_lt hi (by decide)), if_pos jx, if_pos jx, nI_clamp (by omega), nI_1]
    unfold j_up
    rw [va_up_ne _ _ (show (76 : Nat) ≠ 77 by decide), va_up_self, j_fill_succ (J 76) (fun _ => 0) i, va_up_ne _ _ (show (77 : Nat) ≠ 76 by decide), va_up_self, j_fill_succ (J 77) (fun _ => 0) i, va_up_comm _ (show (77 : Nat) ≠ 76 by decide), va_up_up, va_up_up])
  have e0 : va_up (va_up J 76 (j_fill (J 76) (fun _ => 0) 0)) 77 (j_fill (J 77) (fun _ => 0) 0) = J := by
    rw [j_fill_zero, j_fill_zero, va_up_same, va_up_same]
  rw [e0] at h
  refine Eq.trans h ?_
  rw [B358_2, if_neg (by decide)]
/-- one task of the order more -/
theorem sch_1 (hM : pMod dy hd cr fs bt HA CA (J 6)) (hc : rCst J) (hm : many ≤ 7) (hpr : prO dy hd cr fs bt HA CA o D many done) (ho : ∀ i, i < many → J 74 i = nI (o i)) {k : Nat} (hk : k < many) (h75 : ∀ i, i < k → J 75 (o i) = nI (D (o i))) (h76 : ∀ x, x < 400 → J 76 x = nI (Ws dy hd o D k x) ∧ J 77 x = nI (Ws dy cr o D k x)) (o4 o5 o6 o7 o8 : Option Value) : ∃ (J' : Nat → Nat → Int32) (p4 p5 p6 p7 p8 : Option Value), (∀ c, c ≠ 75 → c ≠ 76 → c ≠ 77 → J' c = J c) ∧ (∀ i, i < k + 1 → J' 75 (o i) = nI (D (o i))) ∧ (∀ x, x < 400 → J' 76 x = nI (Ws dy hd o D (k + 1) x) ∧ J' 77 x = nI (Ws dy cr o D (k + 1) x)) ∧ jv (e + 2) 358 33 [some (.ref 0), some (.int (nI many)), some (.int (nI (la dy o D k))), some (.int (nI k)), o4, o5, o6, o7, o8] [] (shR, J, L', pR) = jv (e + 2) 358 33 [some (.ref 0), some (.int (nI many)), some (.int (nI (la dy o D (k + 1)))), some (.int (nI (k + 1))), p4, p5, p6, p7, p8] [] (shR, J', L', pR) := by
  obtain ⟨a1, a2, a3, a4, a5, a6⟩ := id hpr
  obtain ⟨ht, hpos⟩ := a1 k hk
  obtain ⟨s1, s2, s3⟩ := a4 k hk
  have hla := la_le dy (o := o) (D := D) many k hk
  have hlk : la dy o D k ≤ la dy o D many := by
    have key : ∀ m, k ≤ m → la dy o D k ≤ la dy o D m := by
      intro m
      induction m with
      | zero => intro h; rw [show k = 0 by omega]; exact Nat.le_refl _
      | succ m ih =>
        intro h
        by_cases hkm : k = m + 1
        · rw [hkm]; exact Nat.le_refl _
        · have h1 := ih (by omega)
          show _ ≤ (if la dy o D m < D (o m) + dy (o m) then D (o m) + dy (o m) else la dy o D m)
          split <;> omega
    exact key many (by omega)
  have h180 : la dy o D many ≤ 180 := by omega
  obtain ⟨m1, m2, m3, m4, m5⟩ := id hM
  obtain ⟨n1, n2, n3, n4, n5, n6, n7, n8, n9⟩ := m5 (o k) ht
  have hH : ∀ d, d < 400 → J 76 d = nI (Ws dy hd o D k d) ∧ J 77 d = nI (Ws dy cr o D k d) ∧ Ws dy hd o D k d ≤ 50 ∧ Ws dy cr o D k d ≤ 50 := fun d hd4 => by
    have w1 := Ws_le (dy := dy) (w := hd) (o := o) (D := D) k d (fun i hi => (m5 (o i) (a1 i (by omega)).1).2.1)
    have w2 := Ws_le (dy := dy) (w := cr) (o := o) (D := D) k d (fun i hi => (m5 (o i) (a1 i (by omega)).1).2.2.1)
    exact ⟨(h76 d hd4).1, (h76 d hd4).2, by omega, by omega⟩
  have hDb : ∀ u, u < 7 → ibit u (bt (o k)) → J 75 u = nI (D u) ∧ D u ≤ 200 := fun u hu hb => by
    obtain ⟨j, hj, q⟩ := a3 k hk u hu hb
    rw [← q]
    have := la_le dy (o := o) (D := D) many j (by omega)
    exact ⟨h75 j hj, by omega⟩
  generalize htk : o k = t at *
  obtain ⟨y, hy⟩ := base_r (e := e + 1) (L' := L') hM hc ht hDb (nI many) (nI (la dy o D k)) (nI k) (nI t) o8
  have a33 : nI (844 + t * 5) + 3 = nI (847 + t * 5) := by rw [show nI (844 + t * 5) + 3 = nI (844 + t * 5 + 3) from nI_add _ 3, show 844 + t * 5 + 3 = 847 + t * 5 by omega]
  have j0 : j_in (nI (844 + t * 5)) 1189 = true := j_in_nI (by omega) (by decide)
  have jt : j_in (nI t) 7 = true := j_in_nI ht (by decide)
  have hw := j_run (fun i => jv (e + 2) 358 142 [some (.ref 0), some (.int (nI many)), some (.int (nI (la dy o D k))), some (.int (nI k)), some (.int (nI t)), some (.int (nI (844 + t * 5))), some (.int (nI (bs dy fs bt D t 7 + i))), some (.int (nI 7)), y] [] (shR, J, L', pR)) (D t - bs dy fs bt D t 7) (fun i hi => by
    show jv (e + 2) 358 142 _ _ _ = jv (e + 2) 358 142 _ _ _
    rw [B358_142, jgo_some (d := e + 1) rfl (room_no hM hc ht hH (by omega) (s3 _ (by omega) (by omega)))]
    dsimp only [Option.toList_some, List.cons_append, List.nil_append]
    rw [B358_150, if_pos rfl, nI_1]
    rfl)
  have eD : bs dy fs bt D t 7 + (D t - bs dy fs bt D t 7) = D t := by omega
  rw [eD] at hw
  obtain ⟨J3, b1, b2, b3, b4⟩ := use_r (e := e + 2) (J := j_up J 75 t (nI (D t))) (L' := L') (a := D t) (by rw [j_up_cell _ (by decide)]; exact hM) ht (by omega) (nI many) (nI (la dy o D k)) (nI k) (nI t) y (dy t) (Nat.le_refl _)
  have c6 : J3 6 = J 6 := by rw [b1 6 (by decide) (by decide), j_up_cell _ (by decide)]
  refine ⟨J3, some (.int (nI t)), some (.int (nI (844 + t * 5))), some (.int (nI (D t))), some (.int (nI (D t + dy t))), y, fun c x y z => by rw [b1 c y z, j_up_cell _ x], fun i hi => ?_, fun x hx => ?_, ?_⟩
  · rw [b1 75 (by decide) (by decide), j_up_own]
    by_cases hik : i = k
    · rw [hik, htk, if_pos rfl]
    · have := a6 k i hk (by omega)
      rw [htk] at this
      rw [if_neg (fun q => this q.symm)]
      exact h75 i (by omega)
  · rw [b2, b3, j_up_cell _ (by decide), j_up_cell _ (by decide), (h76 x hx).1, (h76 x hx).2, nI_add, nI_add]
    show _ = nI (Ws dy hd o D k x + (if D (o k) ≤ x ∧ x < D (o k) + dy (o k) then hd (o k) else 0)) ∧ _ = nI (Ws dy cr o D k x + (if D (o k) ≤ x ∧ x < D (o k) + dy (o k) then cr (o k) else 0))
    rw [htk]
    by_cases hr : D t ≤ x ∧ x < D t + dy t
    · simp only [if_pos hr]; exact ⟨trivial, trivial⟩
    · simp only [if_neg hr, Nat.add_zero]; exact ⟨trivial, trivial⟩
  · rw [B358_33, if_pos (nI_lt hk (by omega)), if_pos (j_in_nI (by omega) (by decide)), nI_clamp (n := k) (by omega), ho k hk, htk, g_at_10_0 hc]
    dsimp only [Option.toList_some, List.cons_append, List.nil_append]
    rw [B358_55, a33, if_pos (show j_in (nI (847 + t * 5)) 1189 = true from j_in_nI (by omega) (by decide)), nI_clamp (n := 847 + t * 5) (by omega), n8]
    refine Eq.trans hy ?_
    rw [B358_71, if_neg (by decide)]
    refine Eq.trans hw ?_
    rw [B358_142, jgo_some (d := e + 1) rfl (room_yes hM hc ht hH (by omega) s2)]
    dsimp only [Option.toList_some, List.cons_append, List.nil_append]
    rw [B358_150, if_neg (by decide), if_pos jt, nI_clamp (n := t) (by omega), b4, B358_172, if_pos j0, nI_clamp (n := 844 + t * 5) (by omega), c6, n5, nI_add, if_neg (nI_nlt (Nat.le_refl _) (by omega)), if_pos j0]
    have els : la dy o D (k + 1) = if la dy o D k < D t + dy t then D t + dy t else la dy o D k := by
      show (if la dy o D k < D (o k) + dy (o k) then D (o k) + dy (o k) else la dy o D k) = _
      rw [htk]
    by_cases hlt : la dy o D k < D t + dy t
    · rw [if_pos (nI_lt hlt (by omega)), if_pos j0, B358_259, nI_1, els, if_pos hlt]
    · rw [if_neg (nI_nlt (by omega) (by omega)), B358_259, nI_1, els, if_neg hlt]
theorem sch_to (hM : pMod dy hd cr fs bt HA CA (J 6)) (hc : rCst J) (hm : many ≤ 7) (hpr : prO dy hd cr fs bt HA CA o D many done) (ho : ∀ i, i < many → J 74 i = nI (o i)) : ∃ (J' : Nat → Nat → Int32) (p4 p5 p6 p7 p8 : Option Value), (∀ c, c ≠ 75 → c ≠ 76 → c ≠ 77 → J' c = J c) ∧ (∀ i, i < many → J' 75 (o i) = nI (D (o i))) ∧ jv (e + 2) 358 0 [some (.ref 0), some (.int (nI many)), none, none, none, none, none, none, none] [] (shR, J, L', pR) = jv (e + 2) 358 33 [some (.ref 0), some (.int (nI many)), some (.int (nI (la dy o D many))), some (.int (nI many)), p4, p5, p6, p7, p8] [] (shR, J', L', pR) := by
  have key : ∀ k, k ≤ many → ∃ (J' : Nat → Nat → Int32) (p4 p5 p6 p7 p8 : Option Value), (∀ c, c ≠ 75 → c ≠ 76 → c ≠ 77 → J' c = J c) ∧ (∀ i, i < k → J' 75 (o i) = nI (D (o i))) ∧ (∀ x, x < 400 → J' 76 x = nI (Ws dy hd o D k x) ∧ J' 77 x = nI (Ws dy cr o D k x)) ∧ jv (e + 2) 358 0 [some (.ref 0), some (.int (nI many)), none, none, none, none, none, none, none] [] (shR, J, L', pR) = jv (e + 2) 358 33 [some (.ref 0), some (.int (nI many)), some (.int (nI (la dy o D k))), some (.int (nI k)), p4, p5, p6, p7, p8] [] (shR, J', L', pR) := by
    intro k
    induction k with
    | zero =>
      intro _
      refine ⟨_, none, none, none, none, none, fun c x y z => ?_, fun i hi => absurd hi (by omega), fun x hx => ?_, sch_0 (nI many)⟩
      · rw [va_up_ne _ _ z, va_up_ne _ _ y]
      · rw [va_up_ne _ _ (by decide), va_up_self, va_up_self]
        unfold j_fill
        rw [if_pos hx, if_pos hx]
        exact ⟨rfl, rfl⟩
    | succ k ih =>
      intro hk
      obtain ⟨J1, p4, p5, p6, p7, p8, b1, b2, b3, b4⟩ := ih (by omega)
      obtain ⟨J2, r4, r5, r6, r7, r8, c1, c2, c3, c4⟩ := sch_1 (e := e) (J := J1) (L' := L') (by rw [b1 6 (by decide) (by decide) (by decide)]; exact hM) (rCst_eq hc (fun c hc => b1 c (by omega) (by omega) (by omega))) hm hpr (fun i hi => by rw [b1 74 (by decide) (by decide) (by decide)]; exact ho i hi) (by omega : k < many) b2 b3 p4 p5 p6 p7 p8
      exact ⟨J2, r4, r5, r6, r7, r8, fun c x y z => (c1 c x y z).trans (b1 c x y z), c2, c3, b4.trans c4⟩
  obtain ⟨J1, p4, p5, p6, p7, p8, b1, b2, b3, b4⟩ := key many (Nat.le_refl _)
  exact ⟨J1, p4, p5, p6, p7, p8, b1, b2, b4⟩
/-- no better plan: nothing is kept -/
theorem sch_no (hM : pMod dy hd cr fs bt HA CA (J 6)) (hc : rCst J) (hm : many ≤ 7) (hpr : prO dy hd cr fs bt HA CA o D many done) (ho : ∀ i, i < many → J 74 i = nI (o i)) {E : Nat} (hE : J 0 121 = nI E) (hEl : E ≤ la dy o D many) : ∃ J' : Nat → Nat → Int32, (∀ c, c ≠ 75 → c ≠ 76 → c ≠ 77 → J' c = J c) ∧ jv (e + 2) 358 0 [some (.ref 0), some (.int (nI many)), none, none, none, none, none, none, none] [] (shR, J, L', pR) = some (none, (shR, J', L', pR)) := by
  obtain ⟨J1, p4, p5, p6, p7, p8, b1, b2, b3⟩ := sch_to (e := e) (L' := L') hM hc hm hpr ho
  have h180 : la dy o D many ≤ 180 := by have := hpr.2.2.2.2.1; omega
  refine ⟨J1, b1, b3.trans ?_⟩
  rw [B358_33, if_neg (nI_nlt (Nat.le_refl _) (by omega)), b1 0 (by decide) (by decide) (by decide), hE, if_neg (nI_pos (by omega)), if_neg (nI_nlt (by omega) (by omega))]
/-- the plan is kept -/
theorem sch_yes (hM : pMod dy hd cr fs bt HA CA (J 6)) (hc : rCst J) (hm : many ≤ 7) (hpr : prO dy hd cr fs bt HA CA o D many done) (ho : ∀ i, i < many → J 74 i = nI (o i)) (hE : J 0 121 < 0 ∨ ∃ E, E < 2 ^ 31 ∧ J 0 121 = nI E ∧ la dy o D many < E) : ∃ J' : Nat → Nat → Int32, (∀ c, c ≠ 0 → c ≠ 72 → c ≠ 73 → c ≠ 75 → c ≠ 76 → c ≠ 77 → J' c = J c) ∧ (∀ f, J' 0 f = if f = 121 then nI (la dy o D many) else J 0 f) ∧ (∀ i, i < many → J' 72 (o i) = nI (D (o i)) ∧ J' 73 (o i) = nI i) ∧ jv (e + 2) 358 0 [some (.ref 0), some (.int (nI many)), none, none, none, none, none, none, none] [] (shR, J, L', pR) = some (none, (shR, J', L', pR)) := by
  obtain ⟨J1, p4, p5, p6, p7, p8, b1, b2, b3⟩ := sch_to (e := e) (L' := L') hM hc hm hpr ho
  have h180 : la dy o D many ≤ 180 := by have := hpr.2.2.2.2.1; omega
  obtain ⟨a1, a2, a3, a4, a5, a6⟩ := id hpr
  have h0 : jv (e + 2) 358 33 [some (.ref 0), some (.int (nI many)), some (.int (nI (la dy o D many))), some (.int (nI many)), p4, p5, p6, p7, p8] [] (shR, J1, L', pR) = jv (e + 2) 358 289 [some (.ref 0), some (.int (nI many)), some (.int (nI (la dy o D many))), some (.int (nI 0)), p4, p5, p6, p7, p8] [] (shR, j_up J1 0 121 (nI (la dy o D many)), L', pR) := by
    rw [B358_33, if_neg (nI_nlt (Nat.le_refl _) (by omega)), b1 0 (by decide) (by decide) (by decide)]
    rcases hE with hE | ⟨E, hE1, hE2, hE3⟩
    · rw [if_pos hE, B358_282]; rfl
    · rw [hE2, if_neg (nI_pos hE1), if_pos (nI_lt hE3 hE1), B358_282]; rfl
  have key : ∀ k, k ≤ many → ∃ J' : Nat → Nat → Int32, (∀ c, c ≠ 72 → c ≠ 73 → J' c = j_up J1 0 121 (nI (la dy o D many)) c) ∧ (∀ i, i < k → J' 72 (o i) = nI (D (o i)) ∧ J' 73 (o i) = nI i) ∧ jv (e + 2) 358 289 [some (.ref 0), some (.int (nI many)), some (.int (nI (la dy o D many))), some (.int (nI 0)), p4, p5, p6, p7, p8] [] (shR, j_up J1 0 121 (nI (la dy o D many)), L', pR) = jv (e + 2) 358 289 [some (.ref 0), some (.int (nI many)), some (.int (nI (la dy o D many))), some (.int (nI k)), p4, p5, p6, p7, p8] [] (shR, J', L', pR) := by
    intro k
    induction k with
    | zero => intro _; exact ⟨_, fun _ _ _ => rfl, fun i hi => absurd hi (by omega), rfl⟩
    | succ k ih =>
      intro hk
      obtain ⟨J2, c1, c2, c3⟩ := ih (by omega)
      have e74 : J2 74 k = nI (o k) := by rw [c1 74 (by decide) (by decide), j_up_cell _ (by decide), b1 74 (by decide) (by decide) (by decide)]; exact ho k (by omega)
      have e75 : J2 75 (o k) = nI (D (o k)) := by rw [c1 75 (by decide) (by decide), j_up_cell _ (by decide)]; exact b2 k (by omega)
      have hok := (a1 k (by omega)).1
      have jk : j_in (nI k) 7 = true := j_in_nI (by omega) (by decide)
      have jo : j_in (nI (o k)) 7 = true := j_in_nI hok (by decide)
      have kk : (nI k).toNatClampNeg = k := nI_clamp (by omega)
      have ko : (nI (o k)).toNatClampNeg = o k := nI_clamp (by omega)
      refine ⟨j_up (j_up J2 72 (o k) (nI (D (o k)))) 73 (o k) (nI k), fun c x y => by rw [j_up_cell _ y, j_up_cell _ x, c1 c x y], fun i hi => ?_, c3.trans ?_⟩
      · rw [j_up_cell _ (by decide), j_up_own, j_up_own, j_up_cell _ (by decide)]
        by_cases hik : i = k
        · rw [hik, if_pos rfl, if_pos rfl]; exact ⟨rfl, rfl⟩
        · have := a6 k i (by omega) (by omega)
          rw [if_neg (fun q => this q.symm), if_neg (fun q => this q.symm)]
          exact c2 i (by omega)
      · rw [B358_289, if_pos (nI_lt (by omega) (by omega)), kk, e74, ko, e75]
        have e5 : j_up J2 72 (o k) (nI (D (o k))) 74 k = nI (o k) := by rw [j_up_cell _ (by decide)]; exact e74
        rw [e5, ko]
        simp only [jk, jo, ↓reduceIte]
        rw [nI_1]
  obtain ⟨J2, c1, c2, c3⟩ := key many (Nat.le_refl _)
  refine ⟨J2, fun c x y z u v w => by rw [c1 c y z, j_up_cell _ x, b1 c u v w], fun f => by rw [c1 0 (by decide) (by decide), j_up_own, b1 0 (by decide) (by decide) (by decide)], c2, b3.trans (h0.trans (c3.trans ?_))⟩
  rw [B358_289, if_neg (nI_nlt (Nat.le_refl _) (by omega))]
end PLANS
