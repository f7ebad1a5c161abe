/-! WORK PLANNED: the two searches side by side -/
def cnt (dy : Nat → Nat) : Nat → Nat
  | 0 => 0
  | n + 1 => cnt dy n + (if 0 < dy n then 1 else 0)
theorem cnt_ge {dy : Nat → Nat} : ∀ N n (o : Nat → Nat), (∀ i, i < n → o i < N ∧ 0 < dy (o i)) → (∀ i j, i < n → j < i → o i ≠ o j) → n ≤ cnt dy N := by
  intro N
  induction N with
  | zero =>
    intro n o h1 h2
    rcases Nat.eq_zero_or_pos n with z | z
    · omega
    · have := (h1 0 z).1; omega
  | succ N ih =>
    intro n o h1 h2
    show n ≤ cnt dy N + (if 0 < dy N then 1 else 0)
    by_cases hx : ∃ i, i < n ∧ o i = N
    · obtain ⟨i0, hi0, hq⟩ := hx
      have hp : 0 < dy N := by have := (h1 i0 hi0).2; rw [hq] at this; exact this
      have hne : ∀ i, i < n → i ≠ i0 → o i ≠ N := fun i hi hii q => by
        rcases Nat.lt_or_gt_of_ne hii with z | z
        · exact h2 i0 i hi0 z (hq.trans q.symm)
        · exact h2 i i0 hi z (q.trans hq.symm)
      have hsym : ∀ i j, i < n → j < n → i ≠ j → o i ≠ o j := fun i j hi hj hij => by
        rcases Nat.lt_or_gt_of_ne hij with z | z
        · exact fun q => h2 j i hj z q.symm
        · exact h2 i j hi z
      have := ih (n - 1) (fun i => if i = i0 then o (n - 1) else o i) (fun i hi => by
        show (if i = i0 then o (n - 1) else o i) < N ∧ 0 < dy (if i = i0 then o (n - 1) else o i)
        by_cases hii : i = i0
        · rw [if_pos hii]
          have h3 := h1 (n - 1) (by omega)
          have h4 := hne (n - 1) (by omega) (by omega)
          exact ⟨by omega, h3.2⟩
        · rw [if_neg hii]
          have h3 := h1 i (by omega)
          have h4 := hne i (by omega) hii
          exact ⟨by omega, h3.2⟩) (fun i j hi hj => by
        show (if i = i0 then o (n - 1) else o i) ≠ (if j = i0 then o (n - 1) else o j)
        by_cases hii : i = i0
        · rw [if_pos hii, if_neg (by omega)]
          exact hsym _ _ (by omega) (by omega) (by omega)
        · rw [if_neg hii]
          by_cases hjj : j = i0
          · rw [if_pos hjj]
            exact hsym _ _ (by omega) (by omega) (by omega)
          · rw [if_neg hjj]
            exact hsym _ _ (by omega) (by omega) (by omega))
      rw [if_pos hp]
      omega
    · have := ih n o (fun i hi => by
        have h3 := h1 i hi
        have : o i ≠ N := fun q => hx ⟨i, hi, q⟩
        exact ⟨by omega, h3.2⟩) h2
      omega
/-- an order of all tasks has each -/
theorem cover {dy : Nat → Nat} {o : Nat → Nat} {n : Nat} (hn : n = cnt dy 7) (h1 : ∀ i, i < n → o i < 7 ∧ 0 < dy (o i)) (h2 : ∀ i j, i < n → j < i → o i ≠ o j) {t : Nat} (ht : t < 7) (h0 : 0 < dy t) : ∃ i, i < n ∧ o i = t := by
  apply Classical.byContradiction
  intro hx
  have hne : ∀ i, i < n → o i ≠ t := fun i hi q => hx ⟨i, hi, q⟩
  have := cnt_ge 7 (n + 1) (fun i => if i = n then t else o i) (fun i hi => by
    show (if i = n then t else o i) < 7 ∧ 0 < dy (if i = n then t else o i)
    by_cases hin : i = n
    · rw [if_pos hin]; exact ⟨ht, h0⟩
    · rw [if_neg hin]; exact h1 i (by omega)) (fun i j hi hj => by
    show (if i = n then t else o i) ≠ (if j = n then t else o j)
    rw [if_neg (show j ≠ n by omega)]
    by_cases hin : i = n
    · rw [if_pos hin]; exact Ne.symm (hne j (by omega))
    · rw [if_neg hin]; exact h2 i j (by omega) hj)
  omega
def RP (dy : Nat → Nat) (I J : Nat → Nat → Int32) : Prop := (I 107 5 = -1 ∧ J 0 121 = -2) ∨ ∃ E : Nat, E ≤ 200 ∧ I 107 5 = nI E ∧ J 0 121 = nI E ∧ ∀ t, t < 7 → (dy t = 0 → I 111 t = -1) ∧ (0 < dy t → I 110 t = J 72 t ∧ I 111 t = J 73 t ∧ ∃ k, k < 7 ∧ I 111 t = nI k)
def plF (n : Nat) (o : Nat → Nat) (I J I' J' : Nat → Nat → Int32) : Prop := (∀ c, c < 107 ∨ (107 < c ∧ c < 110) ∨ 115 < c → I' c = I c) ∧ (∀ f, f ≠ 5 → I' 107 f = I 107 f) ∧ (∀ i, i < n → I' 112 (o i) = I 112 (o i)) ∧ (∀ t, t < 7 → I' 113 t = I 113 t) ∧ (∀ x, x < 256 → I' 114 x = I 114 x ∧ I' 115 x = I 115 x) ∧ (∀ c, 0 < c → c < 72 ∨ 77 < c → J' c = J c) ∧ (∀ f, f ≠ 121 → J' 0 f = J 0 f) ∧ (∀ i, i < n → J' 74 i = J 74 i)
theorem plF.refl {n : Nat} {o : Nat → Nat} {I J : Nat → Nat → Int32} : plF n o I J I J := ⟨fun _ _ => rfl, fun _ _ => rfl, fun _ _ => rfl, fun _ _ => rfl, fun _ _ => ⟨rfl, rfl⟩, fun _ _ _ => rfl, fun _ _ => rfl, fun _ _ => rfl⟩
theorem plF.trans {n : Nat} {o : Nat → Nat} {I J I1 J1 I2 J2 : Nat → Nat → Int32} (h : plF n o I J I1 J1) (g : plF n o I1 J1 I2 J2) : plF n o I J I2 J2 := by
  obtain ⟨a1, a2, a3, a4, a5, a6, a7, a8⟩ := h
  obtain ⟨b1, b2, b3, b4, b5, b6, b7, b8⟩ := g
  exact ⟨fun c x => (b1 c x).trans (a1 c x), fun c x => (b2 c x).trans (a2 c x), fun c x => (b3 c x).trans (a3 c x), fun c x => (b4 c x).trans (a4 c x), fun c x => ⟨(b5 c x).1.trans (a5 c x).1, (b5 c x).2.trans (a5 c x).2⟩, fun c x y => (b6 c x y).trans (a6 c x y), fun c x => (b7 c x).trans (a7 c x), fun c x => (b8 c x).trans (a8 c x)⟩
def cIn (dy hd cr o D : Nat → Nat) (n many : Nat) (I : Nat → Nat → Int32) : Prop := (∀ i, i < n → I 112 (o i) = nI (D (o i)) ∧ I 113 (o i) = nI i) ∧ (∀ t, t < 7 → (∀ i, i < n → o i ≠ t) → I 113 t = -1) ∧ (∀ x, x < 256 → I 114 x = nI (Ws dy hd o D n x) ∧ I 115 x = nI (Ws dy cr o D n x)) ∧ I 107 8 = nI many
theorem i32_back (x y : Int32) : x + 1 * y + -1 * y = x := by
  rw [Int32.one_mul, Int32.neg_mul, Int32.one_mul, Int32.add_assoc, Int32.add_right_neg, Int32.add_zero]
section PLAN4
variable {d e : Nat} {L L' : Nat → Nat → Int64} {pa pb pu pw : Option Nat} {dy hd cr fs : Nat → Nat} {bt : Nat → Int32} {HA CA many : Nat}
def plQ (dy : Nat → Nat) (n : Nat) (o : Nat → Nat) (L L' : Nat → Nat → Int64) (pa pb pu pw : Option Nat) (I J : Nat → Nat → Int32) : Option Value → jS → Option Value → jS → Prop := fun v S w T => ∃ I' J', v = none ∧ w = none ∧ S = (shC, I', L, pX pa pb pu pw) ∧ T = (shR, J', L', pR) ∧ plF n o I J I' J' ∧ RP dy I' J'
def plS (dy hd cr fs : Nat → Nat) (bt : Nat → Int32) (HA CA many d e n : Nat) (L L' : Nat → Nat → Int64) (pa pb pu pw : Option Nat) : Prop := ∀ (I J : Nat → Nat → Int32) (o D : Nat → Nat) (done : Int32), pMod dy hd cr fs bt HA CA (I 2) → pMod dy hd cr fs bt HA CA (J 6) → rCst J → prO dy hd cr fs bt HA CA o D n done → (∀ i, i < n → J 74 i = nI (o i)) → cIn dy hd cr o D n many I → RP dy I J → (J 0 121 < 0 ∨ ∃ E, E ≤ 200 ∧ J 0 121 = nI E ∧ la dy o D n < E) → jW2 (jv d 136 0 [some (.ref 107), some (.ref 1), some (.int (nI n)), some (.int done), some (.int (nI (la dy o D n))), none, none, none, none] [] (shC, I, L, pX pa pb pu pw)) (jv e 357 0 [some (.ref 0), some (.int (nI n)), some (.int (nI many)), some (.int done), none, none] [] (shR, J, L', pR)) (plQ dy n o L L' pa pb pu pw I J)
/-- an order is whole -/
theorem pl_leaf (hm : many ≤ 7) (hcnt : many = cnt dy 7) : plS dy hd cr fs bt HA CA many d (e + 3) many L L' pa pb pu pw := by
  intro I J o D done hI hJ hc hpr ho hin hrp hE
  obtain ⟨a1, a2, a3, a4, a5, a6⟩ := id hpr
  obtain ⟨c1, c2, c3, c4⟩ := hin
  obtain ⟨J', b1, b2, b3, b4⟩ := sch_yes (e := e) (L' := L') hJ hc hm hpr ho (by
    rcases hE with h | ⟨E, h1, h2, h3⟩
    · exact Or.inl h
    · exact Or.inr ⟨E, by omega, h2, h3⟩)
  have z7 : (7 : Int32).toNatClampNeg = 7 := by decide
  have z0 : (0 : Int32).toNatClampNeg = 0 := by decide
  have hcov := fun t (ht : t < 7) (h0 : 0 < dy t) => cover hcnt a1 a6 ht h0
  rw [B136_0, c4, if_neg (nI_nlt (Nat.le_refl _) (by omega)), if_neg (by decide), if_neg (by decide), B357_0, if_pos rfl, jgo_some (d := e + 2) rfl b4, z7, z0]
  dsimp only [Option.toList_none, List.nil_append]
  rw [B357_10]
  generalize hI1 : va_up (j_up I 107 5 (nI (la dy o D many))) 110 (va_cpy (j_up I 107 5 (nI (la dy o D many)) 112) (j_up I 107 5 (nI (la dy o D many)) 110) 0 0 7) = I1
  have e1 : ∀ c, c ≠ 107 → c ≠ 110 → I1 c = I c := fun c x y => by rw [← hI1, va_up_ne _ _ y, j_up_cell _ x]
  have e107 : ∀ f, I1 107 f = if f = 5 then nI (la dy o D many) else I 107 f := fun f => by rw [← hI1, va_up_ne _ _ (by decide), j_up_own]
  have e110 : ∀ t, t < 7 → I1 110 t = I 112 t := fun t ht => by
    rw [← hI1, va_up_self]
    unfold va_cpy
    rw [if_pos (by omega), j_up_cell _ (by decide)]
    congr 1
    omega
  have e111 : ∀ t, t < 7 → va_up I1 111 (va_cpy (I1 113) (I1 111) 0 0 7) 111 t = I 113 t := fun t ht => by
    rw [va_up_self]
    unfold va_cpy
    rw [if_pos (by omega), e1 113 (by decide) (by decide)]
    congr 1
    omega
  refine jW2_some ⟨_, _, rfl, rfl, rfl, rfl, ⟨fun c x => by rw [va_up_ne _ _ (by omega), e1 c (by omega) (by omega)], fun f x => by rw [va_up_ne _ _ (by decide), e107, if_neg x], fun i hi => by rw [va_up_ne _ _ (by decide), e1 112 (by decide) (by decide)], fun t ht => by rw [va_up_ne _ _ (by decide), e1 113 (by decide) (by decide)], fun x hx => by rw [va_up_ne _ _ (by decide), va_up_ne _ _ (by decide), e1 114 (by decide) (by decide), e1 115 (by decide) (by decide)]; exact ⟨rfl, rfl⟩, fun c x y => b1 c (by omega) (by omega) (by omega) (by omega) (by omega) (by omega), fun f x => by rw [b2, if_neg x], fun i hi => by rw [b1 74 (by decide) (by decide) (by decide) (by decide) (by decide) (by decide)]⟩, Or.inr ⟨la dy o D many, by omega, by rw [va_up_ne _ _ (by decide), e107, if_pos rfl], by rw [b2, if_pos rfl], fun t ht => ⟨fun h0 => ?_, fun h0 => ?_⟩⟩⟩
  · rw [e111 t ht]
    exact c2 t ht (fun i hi q => by have := (a1 i hi).2; rw [q] at this; omega)
  · obtain ⟨i, hi, q⟩ := hcov t ht h0
    have b3i := b3 i hi
    have c1i := c1 i hi
    rw [q] at b3i c1i
    rw [e111 t ht, va_up_ne _ _ (by decide), e110 t ht, c1i.1, c1i.2, b3i.1, b3i.2]
    exact ⟨rfl, rfl, i, by omega, rfl⟩
/-- the tasks from t on, behind a beginning of n -/
theorem pl_loop {n : Nat} (hn : n < many) (hm : many ≤ 7) (hh : ∀ t, t < 7 → 0 < dy t → hd t ≤ HA ∧ cr t ≤ CA) (ih : plS dy hd cr fs bt HA CA many (d + 2) e (n + 1) L L' pa pb pu pw) (iq : ∀ E, quiet dy hd cr fs bt HA CA many E e (n + 1) L') (o D : Nat → Nat) (done : Int32) (hpr : prO dy hd cr fs bt HA CA o D n done) : ∀ m t, t + m = 7 → ∀ (I J : Nat → Nat → Int32) (o6 o7 o8 o5 : Option Value), pMod dy hd cr fs bt HA CA (I 2) → pMod dy hd cr fs bt HA CA (J 6) → rCst J → (∀ i, i < n → J 74 i = nI (o i)) → cIn dy hd cr o D n many I → RP dy I J → jW2 (jv (d + 3) 136 48 [some (.ref 107), some (.ref 1), some (.int (nI n)), some (.int done), some (.int (nI (la dy o D n))), some (.int (nI t)), o6, o7, o8] [] (shC, I, L, pX pa pb pu pw)) (jv (e + 1) 357 14 [some (.ref 0), some (.int (nI n)), some (.int (nI many)), some (.int done), some (.int (nI t)), o5] [] (shR, J, L', pR)) (plQ dy n o L L' pa pb pu pw I J) := by
  intro m
  induction m with
  | zero =>
    intro t ht I J o6 o7 o8 o5 hI hJ hc ho hin hrp
    obtain rfl : t = 7 := by omega
    rw [B136_48, if_neg (by decide), B357_14, if_neg (by decide)]
    exact jW2_some ⟨I, J, rfl, rfl, rfl, rfl, plF.refl, hrp⟩
  | succ m ihm =>
    intro t ht I J o6 o7 o8 o5 hI hJ hc ho hin hrp
    have ht7 : t < 7 := by omega
    obtain ⟨a1, a2, a3, a4, a5, a6⟩ := id hpr
    obtain ⟨i1, i2, i3, i4, i5⟩ := id hI
    obtain ⟨_, _, _, _, p5, _, _, _, p9⟩ := i5 t ht7
    obtain ⟨m1, m2, m3, m4, m5⟩ := id hJ
    obtain ⟨n1, n2, n3, n4, n5, n6, n7, n8, n9⟩ := m5 t ht7
    have b4 : nI (844 + t * 5) + 4 = nI (848 + t * 5) := by rw [show nI (844 + t * 5) + 4 = nI (844 + t * 5 + 4) from nI_add _ 4, show 844 + t * 5 + 4 = 848 + t * 5 by omega]
    -- both go on with the next task
    have nx : ∀ (I1 J1 : Nat → Nat → Int32) (x6 : Int32) (o7 o8 : Option Value), plF n o I J I1 J1 → RP dy I1 J1 → jW2 (jv (d + 3) 136 196 [some (.ref 107), some (.ref 1), some (.int (nI n)), some (.int done), some (.int (nI (la dy o D n))), some (.int (nI t)), some (.int x6), o7, o8] [] (shC, I1, L, pX pa pb pu pw)) (jv (e + 1) 357 89 [some (.ref 0), some (.int (nI n)), some (.int (nI many)), some (.int done), some (.int (nI t)), some (.int (nI (844 + t * 5)))] [] (shR, J1, L', pR)) (plQ dy n o L L' pa pb pu pw I J) := fun I1 J1 x6 o7 o8 hF hR => by
      obtain ⟨f1, f2, f3, f4, f5, f6, f7, f8⟩ := id hF
      obtain ⟨c1, c2, c3, c4⟩ := hin
      rw [B136_196, B357_89, nI_1]
      refine jW2_mono (ihm (t + 1) (by omega) I1 J1 _ _ _ _ (by rw [f1 2 (Or.inl (by decide))]; exact hI) (by rw [f6 6 (by decide) (Or.inl (by decide))]; exact hJ) (by
        obtain ⟨g1, g2, g3, g4, g5⟩ := hc
        exact ⟨fun t ht => by rw [f6 1 (by decide) (Or.inl (by decide))]; exact g1 t ht, fun t ht => by rw [f6 2 (by decide) (Or.inl (by decide))]; exact g2 t ht, fun t ht => by rw [f6 3 (by decide) (Or.inl (by decide))]; exact g3 t ht, fun t ht => by rw [f6 4 (by decide) (Or.inl (by decide))]; exact g4 t ht, fun t ht => by rw [f6 5 (by decide) (Or.inl (by decide))]; exact g5 t ht⟩) (fun i hi => by rw [f8 i hi]; exact ho i hi) ⟨fun i hi => by rw [f3 i hi, f4 (o i) (a1 i hi).1]; exact c1 i hi, fun u hu hx => by rw [f4 u hu]; exact c2 u hu hx, fun x hx => by rw [(f5 x hx).1, (f5 x hx).2]; exact c3 x hx, by rw [f2 8 (by decide)]; exact c4⟩ hR) ?_
      rintro v S w T ⟨I2, J2, rfl, rfl, rfl, rfl, hF2, hR2⟩
      exact ⟨I2, J2, rfl, rfl, rfl, rfl, hF.trans hF2, hR2⟩
    rw [B136_48, if_pos (show nI t < (7 : Int32) from nI_lt ht7 (by decide)), g_of1_10_0 ht7, B357_14, if_pos (show nI t < (7 : Int32) from nI_lt ht7 (by decide)), g_at_10_0 hc]
    dsimp only [Option.toList_some, List.cons_append, List.nil_append]
    rw [B136_64, p5, B357_30, if_pos (show j_in (nI (844 + t * 5)) 1189 = true from j_in_nI (by omega) (by decide)), nI_clamp (n := 844 + t * 5) (by omega), n5]
    by_cases h0 : 0 < dy t
    · rw [if_neg (nI_ne0 h0 (by omega)), if_pos (show (0 : Int32) < nI (dy t) from nI_lt (a := 0) h0 (by omega))]
      by_cases hb : ibit t done
      · rw [if_neg (fun q => (ibit_no (by omega)).mp q hb), if_neg (fun q => (ibit_no (by omega)).mp q hb)]
        exact nx I J _ _ _ plF.refl hrp
      · have hb0 := (ibit_no (x := done) (u := t) (by omega)).mpr hb
        rw [if_pos hb0, if_pos hb0, g_of1_10_4 ht7, b4, if_pos (show j_in (nI (848 + t * 5)) 1189 = true from j_in_nI (by omega) (by decide)), nI_clamp (n := 848 + t * 5) (by omega), n9]
        dsimp only [Option.toList_some, List.cons_append, List.nil_append]
        rw [B136_89, p9]
        by_cases hs : (bt t) &&& (done ^^^ (-1)) = 0
        · obtain ⟨a, d1, d2⟩ := pr_day dy hd cr fs bt HA CA hpr (by omega) (hh t ht7 h0).1 (hh t ht7 h0).2 hs
          have hp2 := pr_ext dy hd cr fs bt HA CA hpr ht7 h0 n1 hb hs d2 d1
          have hne := pr_ne hpr ht7 hb
          have hl := la_ext (dy := dy) (D := D) (d := a) hne
          obtain ⟨c1, c2, c3, c4⟩ := id hin
          have hH : ∀ x, x < 256 → I 114 x = nI (Ws dy hd o D n x) ∧ I 115 x = nI (Ws dy cr o D n x) ∧ Ws dy hd o D n x ≤ 50 ∧ Ws dy cr o D n x ≤ 50 := fun x hx => by
            have w1 := Ws_le (dy := dy) (w := hd) (o := o) (D := D) n x (fun i hi => (m5 (o i) (a1 i hi).1).2.1)
            have w2 := Ws_le (dy := dy) (w := cr) (o := o) (D := D) n x (fun i hi => (m5 (o i) (a1 i hi).1).2.2.1)
            exact ⟨(c3 x hx).1, (c3 x hx).2, by omega, by omega⟩
          have hDb : ∀ u, u < 7 → ibit u (bt t) → I 112 u = nI (D u) ∧ D u ≤ 200 := fun u hu hbu => by
            obtain ⟨j, hj, q⟩ := (a2 u hu).mp (ibit_sub hs (by omega) hbu)
            rw [← q]
            have := la_le dy (o := o) (D := D) n j hj
            exact ⟨(c1 j hj).1, by omega⟩
          have hoJ : ∀ i, i < n + 1 → j_up J 74 n (nI t) 74 i = nI ((fun i => if i = n then t else o i) i) := fun i hi => by
            rw [j_up_own]
            show _ = nI (if i = n then t else o i)
            by_cases hi2 : i = n
            · rw [if_pos hi2, if_pos hi2]
            · rw [if_neg hi2, if_neg hi2]; exact ho i (by omega)
          have hc2 : rCst (j_up J 74 n (nI t)) := rCst_eq hc (fun c hc => j_up_cell _ (by omega) _ _)
          have hJ2 : pMod dy hd cr fs bt HA CA (j_up J 74 n (nI t) 6) := by rw [j_up_cell _ (by decide)]; exact hJ
          have emax : (if nI (la dy o D n) < nI a + nI (dy t) then nI a + nI (dy t) else nI (la dy o D n)) = nI (la dy (fun i => if i = n then t else o i) (fun u => if u = t then a else D u) (n + 1)) := by
            rw [hl, nI_add]
            by_cases hq : la dy o D n < a + dy t
            · rw [if_pos (nI_lt hq (by omega)), if_pos hq]
            · rw [if_neg (nI_nlt (by omega) (by omega)), if_neg hq]
          have hl2 : la dy (fun i => if i = n then t else o i) (fun u => if u = t then a else D u) (n + 1) ≤ 200 := by have := hp2.2.2.2.2.1; omega
          rw [if_pos hs, if_pos hs, jgo_some (d := d + 2) rfl (fday_c (d := d + 1) hI ht7 (hh t ht7 h0).1 (hh t ht7 h0).2 hH hDb d2 (by omega)), if_pos (show j_in (nI n) 7 = true from j_in_nI (by omega) (by decide)), nI_clamp (n := n) (by omega), nI_1]
          dsimp only [Option.toList_some, List.cons_append, List.nil_append]
          rw [B136_106, emax]
          -- the class goes into it
          have into : (J 0 121 < 0 ∨ ∃ E, E ≤ 200 ∧ J 0 121 = nI E ∧ la dy (fun i => if i = n then t else o i) (fun u => if u = t then a else D u) (n + 1) < E) → jW2 (jv (d + 3) 136 139 [some (.ref 107), some (.ref 1), some (.int (nI n)), some (.int done), some (.int (nI (la dy o D n))), some (.int (nI t)), some (.int (nI (dy t))), some (.int (nI a)), some (.int (nI (la dy (fun i => if i = n then t else o i) (fun u => if u = t then a else D u) (n + 1))))] [] (shC, I, L, pX pa pb pu pw)) (jgo jTT jMM (e + 1) 357 [.ref 0, .int (nI (n + 1)), .int (nI many), .int (done ||| ((1 : Int32) <<< (nI t &&& 31)))] (shR, j_up J 74 n (nI t), L', pR) (fun v S => jv (e + 1) 357 89 [some (.ref 0), some (.int (nI n)), some (.int (nI many)), some (.int done), some (.int (nI t)), some (.int (nI (844 + t * 5)))] (v.toList ++ []) S)) (plQ dy n o L L' pa pb pu pw I J) := fun hE => by
            have jt : j_in (nI t) 7 = true := j_in_nI ht7 (by decide)
            generalize hI1 : j_up (j_up I 112 t (nI a)) 113 t (nI n) = I1
            have g1 : ∀ c, c ≠ 112 → c ≠ 113 → I1 c = I c := fun c x y => by rw [← hI1, j_up_cell _ y, j_up_cell _ x]
            have g112 : ∀ u, I1 112 u = if u = t then nI a else I 112 u := fun u => by rw [← hI1, j_up_cell _ (by decide), j_up_own]
            have g113 : ∀ u, I1 113 u = if u = t then nI n else I 113 u := fun u => by rw [← hI1, j_up_own, j_up_cell _ (by decide)]
            obtain ⟨I2, x1, x2, x3, x4⟩ := occ_c (d := d + 1) (I := I1) (L := L) (pa := pa) (pb := pb) (pu := pu) (pw := pw) (t := t) (a := a) (by rw [g1 2 (by decide) (by decide)]; exact hI) ht7 (by rw [g112, if_pos rfl]) (by omega) 1
            have hI2 : pMod dy hd cr fs bt HA CA (I2 2) := by rw [x1 2 (by decide) (by decide), g1 2 (by decide) (by decide)]; exact hI
            have hin2 : cIn dy hd cr (fun i => if i = n then t else o i) (fun u => if u = t then a else D u) (n + 1) many I2 := by
              refine ⟨fun i hi => ?_, fun u hu hx => ?_, fun x hx => ?_, by rw [x1 107 (by decide) (by decide), g1 107 (by decide) (by decide)]; exact c4⟩
              · rw [x1 112 (by decide) (by decide), x1 113 (by decide) (by decide), g112, g113]
                show (if (if i = n then t else o i) = t then nI a else I 112 (if i = n then t else o i)) = nI (if (if i = n then t else o i) = t then a else D (if i = n then t else o i)) ∧ (if (if i = n then t else o i) = t then nI n else I 113 (if i = n then t else o i)) = nI i
                by_cases hi2 : i = n
                · rw [if_pos hi2, if_pos rfl, if_pos rfl, if_pos rfl, hi2]; exact ⟨rfl, rfl⟩
                · have := hne i (by omega)
                  rw [if_neg hi2, if_neg this, if_neg this, if_neg this]
                  exact c1 i (by omega)
              · rw [x1 113 (by decide) (by decide), g113]
                have h1 := hx n (by omega)
                have h2 : t ≠ u := by have : (fun i => if i = n then t else o i) n = t := if_pos rfl; rw [this] at h1; exact h1
                rw [if_neg (Ne.symm h2)]
                exact c2 u hu (fun i hi q => by
                  have h3 := hx i (by omega)
                  have h4 : (fun i => if i = n then t else o i) i = o i := if_neg (by omega)
                  rw [h4] at h3
                  exact h3 q)
              · have ws : ∀ w : Nat → Nat, Ws dy w (fun i => if i = n then t else o i) (fun u => if u = t then a else D u) (n + 1) x = Ws dy w o D n x + (if a ≤ x ∧ x < a + dy t then w t else 0) := fun w => by
                  show Ws dy w (fun i => if i = n then t else o i) (fun u => if u = t then a else D u) n x + (if (if (if n = n then t else o n) = t then a else D (if n = n then t else o n)) ≤ x ∧ x < (if (if n = n then t else o n) = t then a else D (if n = n then t else o n)) + dy (if n = n then t else o n) then w (if n = n then t else o n) else 0) = _
                  rw [Ws_congr dy (o := o) (D := D) (fun i hi => if_neg (by omega)) (fun i hi => if_neg (hne i hi))]
                  simp only [↓reduceIte]
                rw [x2, x3, g1 114 (by decide) (by decide), g1 115 (by decide) (by decide), (c3 x hx).1, (c3 x hx).2, ws, ws, Int32.one_mul, Int32.one_mul, nI_add, nI_add]
                by_cases hr : a ≤ x ∧ x < a + dy t
                · simp only [if_pos hr]; exact ⟨trivial, trivial⟩
                · simp only [if_neg hr, Nat.add_zero]; exact ⟨trivial, trivial⟩
            have hrp2 : RP dy I2 (j_up J 74 n (nI t)) := by
              rcases hrp with ⟨r1, r2⟩ | ⟨E, r1, r2, r3, r4⟩
              · left
                rw [x1 107 (by decide) (by decide), g1 107 (by decide) (by decide), j_up_cell _ (by decide)]
                exact ⟨r1, r2⟩
              · right
                refine ⟨E, r1, by rw [x1 107 (by decide) (by decide), g1 107 (by decide) (by decide)]; exact r2, by rw [j_up_cell _ (by decide)]; exact r3, fun u hu => ?_⟩
                rw [x1 111 (by decide) (by decide), x1 110 (by decide) (by decide), g1 111 (by decide) (by decide), g1 110 (by decide) (by decide), j_up_cell _ (by decide), j_up_cell _ (by decide)]
                exact r4 u hu
            rw [B136_139, if_pos jt, if_pos jt, nI_clamp (n := t) (by omega), hI1, jgo_some (d := d + 2) rfl x4]
            dsimp only [Option.toList_none, List.nil_append]
            rw [B136_164, nI_1]
            refine jW2_go rfl rfl (ih I2 (j_up J 74 n (nI t)) _ _ _ hI2 hJ2 hc2 hp2 hoJ hin2 hrp2 (by rw [j_up_cell _ (by decide)]; exact hE)) ?_
            rintro v S w T ⟨I3, J3, rfl, rfl, rfl, rfl, ⟨y1, y2, y3, y4, y5, y6, y7, y8⟩, hR3⟩
            have on : (fun i => if i = n then t else o i) n = t := if_pos rfl
            have oi : ∀ i, i < n → (fun i => if i = n then t else o i) i = o i := fun i hi => if_neg (by omega)
            have h3t : I3 112 t = nI a := by
              have := y3 n (by omega)
              rw [on] at this
              rw [this, x1 112 (by decide) (by decide), g112, if_pos rfl]
            obtain ⟨I4, z1, z2, z3, z4⟩ := occ_c (d := d + 1) (I := I3) (L := L) (pa := pa) (pb := pb) (pu := pu) (pw := pw) (t := t) (a := a) (by rw [y1 2 (Or.inl (by decide))]; exact hI2) ht7 h3t (by omega) (-1)
            dsimp only [Option.toList_none, List.nil_append]
            rw [B136_180, jgo_some (d := d + 2) rfl z4]
            dsimp only [Option.toList_none, List.nil_append]
            rw [B136_188, if_pos jt, nI_clamp (n := t) (by omega)]
            have t113 : I 113 t = -1 := c2 t ht7 hne
            refine nx _ _ _ _ _ ⟨fun c hx => by rw [j_up_cell _ (by omega), z1 c (by omega) (by omega), y1 c hx, x1 c (by omega) (by omega), g1 c (by omega) (by omega)], fun f hf => by rw [j_up_cell _ (by decide), z1 107 (by decide) (by decide), y2 f hf, x1 107 (by decide) (by decide), g1 107 (by decide) (by decide)], fun i hi => ?_, fun u hu => ?_, fun x hx => ?_, fun c hx hy => by rw [y6 c hx hy, j_up_cell _ (by omega)], fun f hf => by rw [y7 f hf, j_up_cell _ (by decide)], fun i hi => by rw [y8 i (by omega), j_up_own, if_neg (by omega)]⟩ ?_
            · have := y3 i (by omega)
              rw [oi i hi] at this
              rw [j_up_cell _ (by decide), z1 112 (by decide) (by decide), this, x1 112 (by decide) (by decide), g112, if_neg (hne i hi)]
            · rw [j_up_own]
              by_cases hut : u = t
              · rw [if_pos hut, hut, t113]
              · rw [if_neg hut, z1 113 (by decide) (by decide), y4 u hu, x1 113 (by decide) (by decide), g113, if_neg hut]
            · rw [j_up_cell _ (by decide), j_up_cell _ (by decide), z2, z3, (y5 x hx).1, (y5 x hx).2, x2, x3, g1 114 (by decide) (by decide), g1 115 (by decide) (by decide)]
              by_cases hr : a ≤ x ∧ x < a + dy t
              · simp only [if_pos hr, i32_back]; exact ⟨trivial, trivial⟩
              · simp only [if_neg hr]; exact ⟨trivial, trivial⟩
            · rcases hR3 with ⟨r1, r2⟩ | ⟨E, r1, r2, r3, r4⟩
              · left
                rw [j_up_cell _ (by decide), z1 107 (by decide) (by decide)]
                exact ⟨r1, r2⟩
              · right
                refine ⟨E, r1, by rw [j_up_cell _ (by decide), z1 107 (by decide) (by decide)]; exact r2, r3, fun u hu => ?_⟩
                rw [j_up_cell _ (by decide), j_up_cell _ (by decide), z1 111 (by decide) (by decide), z1 110 (by decide) (by decide)]
                exact r4 u hu
          rcases id hrp with ⟨r1, r2⟩ | ⟨E, r1, r2, r3, r4⟩
          · rw [r1, if_pos (by decide)]
            exact into (Or.inl (by rw [r2]; decide))
          · rw [r2, if_neg (nI_pos (by omega))]
            by_cases hlt : la dy (fun i => if i = n then t else o i) (fun u => if u = t then a else D u) (n + 1) < E
            · rw [if_pos (nI_lt hlt (by omega))]
              exact into (Or.inr ⟨E, r1, r3, hlt⟩)
            · rw [if_neg (nI_nlt (by omega) (by omega))]
              obtain ⟨J3, y1, y2, y3⟩ := iq E (j_up J 74 n (nI t)) _ _ _ hJ2 hc2 hp2 hoJ (by rw [j_up_cell _ (by decide)]; exact r3) (by omega)
              rw [jgo_some (d := e) rfl y3]
              dsimp only [Option.toList_none, List.nil_append]
              refine nx I J3 _ _ _ ⟨fun _ _ => rfl, fun _ _ => rfl, fun _ _ => rfl, fun _ _ => rfl, fun _ _ => ⟨rfl, rfl⟩, fun c hx hy => by rw [y1 c (by omega), j_up_cell _ (by omega)], fun f hf => by rw [y1 0 (Or.inl (by decide)), j_up_cell _ (by decide)], fun i hi => by rw [y2 i (by omega), j_up_own, if_neg (by omega)]⟩ (Or.inr ⟨E, r1, r2, by rw [y1 0 (Or.inl (by decide)), j_up_cell _ (by decide)]; exact r3, fun u hu => ?_⟩)
              rw [y1 72 (Or.inl (by decide)), y1 73 (Or.inl (by decide)), j_up_cell _ (by decide), j_up_cell _ (by decide)]
              exact r4 u hu
        · rw [if_neg hs, if_neg hs]
          exact nx I J _ _ _ plF.refl hrp
    · rw [if_pos (by rw [show dy t = 0 by omega]; rfl), if_neg (show ¬ (0 : Int32) < nI (dy t) from nI_nlt (a := 0) (b := dy t) (by omega) (by decide))]
      exact nx I J _ _ _ plF.refl hrp
theorem pl_sim (hm : many ≤ 7) (hcnt : many = cnt dy 7) (hh : ∀ t, t < 7 → 0 < dy t → hd t ≤ HA ∧ cr t ≤ CA) : ∀ m n, n + m = many → plS dy hd cr fs bt HA CA many (d + 2 + m) (e + 3 + m) n L L' pa pb pu pw := by
  intro m
  induction m with
  | zero =>
    intro n hn
    obtain rfl : n = many := by omega
    exact pl_leaf hm hcnt
  | succ m ih =>
    intro n hn I J o D done hI hJ hc hpr ho hin hrp hE
    have h8 := hin.2.2.2
    rw [B136_0, h8, if_pos (nI_lt (by omega) (by omega)), B357_0, if_neg (fun q => by have := (nI_eq (by omega) (by omega)).mp q; omega)]
    have ih' : plS dy hd cr fs bt HA CA many (d + m + 2) (e + 3 + m) (n + 1) L L' pa pb pu pw := by
      have := ih (n + 1) (by omega)
      rw [show d + m + 2 = d + 2 + m by omega]
      exact this
    have := pl_loop (d := d + m) (by omega) hm hh ih' (fun E => ord_no (e := e) hm hh m (n + 1) (by omega)) o D done hpr 7 0 rfl I J none none none none hI hJ hc ho hin hrp
    rw [show d + 2 + (m + 1) = d + m + 3 by omega, show e + 3 + (m + 1) = e + 3 + m + 1 by omega]
    exact this
end PLAN4
