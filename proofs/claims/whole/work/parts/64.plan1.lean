/-! WORK PLANNED in the reference: room, schedule -/
def pMod (dy hd cr fs : Nat → Nat) (bt : Nat → Int32) (HA CA : Nat) (m : Nat → Int32) : Prop := HA ≤ 6 ∧ CA ≤ 6 ∧ m 6 = nI HA ∧ m 7 = nI CA ∧ ∀ t, t < 7 → dy t ≤ 20 ∧ hd t ≤ 6 ∧ cr t ≤ 6 ∧ fs t ≤ 40 ∧ m (844 + t * 5) = nI (dy t) ∧ m (845 + t * 5) = nI (hd t) ∧ m (846 + t * 5) = nI (cr t) ∧ m (847 + t * 5) = nI (fs t) ∧ m (848 + t * 5) = bt t
theorem Ws_le {dy w o D : Nat → Nat} : ∀ n d, (∀ i, i < n → w (o i) ≤ 6) → Ws dy w o D n d ≤ 6 * n := by
  intro n
  induction n with
  | zero => intro d _; exact Nat.le_refl 0
  | succ n ih =>
    intro d h
    have h1 := ih d (fun i hi => h i (by omega))
    have h2 := h n (by omega)
    show Ws dy w o D n d + (if D (o n) ≤ d ∧ d < D (o n) + dy (o n) then w (o n) else 0) ≤ _
    split <;> omega
section PLANR
variable {e : Nat} {J : Nat → Nat → Int32} {L' : Nat → Nat → Int64} {dy hd cr fs : Nat → Nat} {bt : Nat → Int32} {HA CA : Nat} {H C : Nat → Nat}
theorem roomr_1 (hM : pMod dy hd cr fs bt HA CA (J 6)) (hc : rCst J) {t : Nat} (ht : t < 7) (hH : ∀ d, d < 400 → J 76 d = nI (H d) ∧ J 77 d = nI (C d) ∧ H d ≤ 50 ∧ C d ≤ 50) {day x : Nat} (hx : day ≤ x) (hx2 : x < day + dy t) (h4 : day + dy t ≤ 400) : (okD hd cr HA CA t H C x → jv (e + 1) 359 2 [some (.ref 0), some (.int (nI (844 + t * 5))), some (.int (nI day)), some (.int (nI x))] [] (shR, J, L', pR) = jv (e + 1) 359 2 [some (.ref 0), some (.int (nI (844 + t * 5))), some (.int (nI day)), some (.int (nI (x + 1)))] [] (shR, J, L', pR)) ∧ (¬ okD hd cr HA CA t H C x → jv (e + 1) 359 2 [some (.ref 0), some (.int (nI (844 + t * 5))), some (.int (nI day)), some (.int (nI x))] [] (shR, J, L', pR) = some (some (.int 0), (shR, J, L', pR))) := by
  obtain ⟨m1, m2, m3, m4, m5⟩ := hM
  obtain ⟨n1, n2, n3, n4, n5, n6, n7, n8, n9⟩ := m5 t ht
  obtain ⟨p1, p2, p3, p4⟩ := hH x (by omega)
  have a1 : nI (844 + t * 5) + 1 = nI (845 + t * 5) := by rw [nI_1, show 844 + t * 5 + 1 = 845 + t * 5 by omega]
  have a2 : nI (844 + t * 5) + 2 = nI (846 + t * 5) := by rw [show nI (844 + t * 5) + 2 = nI (844 + t * 5 + 2) from nI_add _ 2, show 844 + t * 5 + 2 = 846 + t * 5 by omega]
  have j0 : j_in (nI (844 + t * 5)) 1189 = true := j_in_nI (by omega) (by decide)
  have j1 : j_in (nI (845 + t * 5)) 1189 = true := j_in_nI (by omega) (by decide)
  have j2 : j_in (nI (846 + t * 5)) 1189 = true := j_in_nI (by omega) (by decide)
  have jx : j_in (nI x) 400 = true := j_in_nI (by omega) (by decide)
  have j6 : j_in (nI 6) 1189 = true := j_in_nI (by decide) (by decide)
  have j7 : j_in (nI 7) 1189 = true := j_in_nI (by decide) (by decide)
  have k0 : (nI (844 + t * 5)).toNatClampNeg = 844 + t * 5 := nI_clamp (by omega)
  have k1 : (nI (845 + t * 5)).toNatClampNeg = 845 + t * 5 := nI_clamp (by omega)
  have k2 : (nI (846 + t * 5)).toNatClampNeg = 846 + t * 5 := nI_clamp (by omega)
  have kx : (nI x).toNatClampNeg = x := nI_clamp (by omega)
  have k6 : (nI 6).toNatClampNeg = 6 := rfl
  have k7 : (nI 7).toNatClampNeg = 7 := rfl
  have e1 : jv (e + 1) 359 2 [some (.ref 0), some (.int (nI (844 + t * 5))), some (.int (nI day)), some (.int (nI x))] [] (shR, J, L', pR) = if HA < H x + hd t then some (some (.int 0), (shR, J, L', pR)) else if CA < C x + cr t then some (some (.int 0), (shR, J, L', pR)) else jv (e + 1) 359 2 [some (.ref 0), some (.int (nI (844 + t * 5))), some (.int (nI day)), some (.int (nI (x + 1)))] [] (shR, J, L', pR) := by
    rw [B359_2, if_pos j0, k0, n5, nI_add, if_pos (nI_lt hx2 (by omega)), if_pos jx, a1, if_pos j1, kx, k1, p1, n6, nI_add, g_at_0_6 hc]
    dsimp only [Option.toList_some, List.cons_append, List.nil_append]
    rw [B359_41, if_pos j6, k6, m3]
    by_cases h1 : HA < H x + hd t
    · rw [if_pos h1, if_pos (nI_lt h1 (by omega)), B359_76, if_pos nb0]
    · rw [if_neg h1, if_neg (nI_nlt (by omega) (by omega)), if_pos jx, a2, if_pos j2, kx, k2, p2, n7, nI_add, g_at_0_7 hc]
      dsimp only [Option.toList_some, List.cons_append, List.nil_append]
      rw [B359_72, if_pos j7, k7, m4]
      by_cases h2 : CA < C x + cr t
      · rw [if_pos h2, if_pos (nI_lt h2 (by omega)), B359_76, if_pos nb0]
      · rw [if_neg h2, if_neg (nI_nlt (by omega) (by omega)), nI_1]
  constructor
  · intro hok
    unfold okD at hok
    rw [e1, if_neg (by omega), if_neg (by omega)]
  · intro hok
    unfold okD at hok
    rw [e1]
    by_cases h1 : HA < H x + hd t
    · rw [if_pos h1]
    · rw [if_neg h1, if_pos (by omega)]
theorem room_yes (hM : pMod dy hd cr fs bt HA CA (J 6)) (hc : rCst J) {t : Nat} (ht : t < 7) (hH : ∀ d, d < 400 → J 76 d = nI (H d) ∧ J 77 d = nI (C d) ∧ H d ≤ 50 ∧ C d ≤ 50) {day : Nat} (h4 : day + dy t ≤ 400) (hf : fit dy hd cr HA CA t H C day) : jv (e + 1) 359 0 [some (.ref 0), some (.int (nI (844 + t * 5))), some (.int (nI day)), none] [] (shR, J, L', pR) = some (some (.int 1), (shR, J, L', pR)) := by
  rw [B359_0]
  have h := j_run (fun i => jv (e + 1) 359 2 [some (.ref 0), some (.int (nI (844 + t * 5))), some (.int (nI day)), some (.int (nI (day + i)))] [] (shR, J, L', pR)) (dy t) (fun i hi => (roomr_1 hM hc ht hH (by omega) (by omega) h4).1 (hf _ (by omega) (by omega)))
  refine Eq.trans h ?_
  have n5 := (hM.2.2.2.2 t ht).2.2.2.2.1
  rw [B359_2, if_pos (show j_in (nI (844 + t * 5)) 1189 = true from j_in_nI (by omega) (by decide)), nI_clamp (by omega), n5, nI_add, if_neg (nI_nlt (Nat.le_refl _) (by omega)), if_pos nb1]
theorem room_no (hM : pMod dy hd cr fs bt HA CA (J 6)) (hc : rCst J) {t : Nat} (ht : t < 7) (hH : ∀ d, d < 400 → J 76 d = nI (H d) ∧ J 77 d = nI (C d) ∧ H d ≤ 50 ∧ C d ≤ 50) {day : Nat} (h4 : day + dy t ≤ 400) (hf : ¬ fit dy hd cr HA CA t H C day) : jv (e + 1) 359 0 [some (.ref 0), some (.int (nI (844 + t * 5))), some (.int (nI day)), none] [] (shR, J, L', pR) = some (some (.int 0), (shR, J, L', pR)) := by
  rw [B359_0]
  have key : ∀ m x, x + m = day + dy t → day ≤ x → (∃ y, x ≤ y ∧ y < day + dy t ∧ ¬ okD hd cr HA CA t H C y) → jv (e + 1) 359 2 [some (.ref 0), some (.int (nI (844 + t * 5))), some (.int (nI day)), some (.int (nI x))] [] (shR, J, L', pR) = some (some (.int 0), (shR, J, L', pR)) := by
    intro m
    induction m with
    | zero => rintro x hx _ ⟨y, h1, h2, _⟩; omega
    | succ m ih =>
      rintro x hx hdx ⟨y, h1, h2, h3⟩
      by_cases hok : okD hd cr HA CA t H C x
      · rw [(roomr_1 hM hc ht hH hdx (by omega) h4).1 hok]
        have hyx : y ≠ x := fun q => h3 (by rw [q]; exact hok)
        exact ih (x + 1) (by omega) (by omega) ⟨y, by omega, h2, h3⟩
      · exact (roomr_1 hM hc ht hH hdx (by omega) h4).2 hok
  refine key (dy t) day rfl (Nat.le_refl _) ?_
  apply Classical.byContradiction
  intro q
  exact hf (fun x h1 h2 => Classical.byContradiction (fun z => q ⟨x, h1, h2, z⟩))
/-- the base of a task's day -/
theorem base_r (hM : pMod dy hd cr fs bt HA CA (J 6)) (hc : rCst J) {t : Nat} (ht : t < 7) {D : Nat → Nat} (hD : ∀ u, u < 7 → ibit u (bt t) → J 75 u = nI (D u) ∧ D u ≤ 200) (l1 l2 l3 l4 : Int32) : ∀ x : Option Value, ∃ y : Option Value, jv (e + 1) 358 71 [some (.ref 0), some (.int l1), some (.int l2), some (.int l3), some (.int l4), some (.int (nI (844 + t * 5))), some (.int (nI (bs dy fs bt D t 0))), some (.int (nI 0)), x] [] (shR, J, L', pR) = jv (e + 1) 358 71 [some (.ref 0), some (.int l1), some (.int l2), some (.int l3), some (.int l4), some (.int (nI (844 + t * 5))), some (.int (nI (bs dy fs bt D t 7))), some (.int (nI 7)), y] [] (shR, J, L', pR) := by
  obtain ⟨m1, m2, m3, m4, m5⟩ := hM
  obtain ⟨n1, n2, n3, n4, n5, n6, n7, n8, n9⟩ := m5 t ht
  refine j_runE (fun u (x : Option Value) => jv (e + 1) 358 71 [some (.ref 0), some (.int l1), some (.int l2), some (.int l3), some (.int l4), some (.int (nI (844 + t * 5))), some (.int (nI (bs dy fs bt D t u))), some (.int (nI u)), x] [] (shR, J, L', pR)) 7 (fun u hu x => ?_)
  have q5 := (m5 u hu).2.2.2.2.1
  have qd := (m5 u hu).1
  have a4 : nI (844 + t * 5) + 4 = nI (848 + t * 5) := by rw [show nI (844 + t * 5) + 4 = nI (844 + t * 5 + 4) from nI_add _ 4, show 844 + t * 5 + 4 = 848 + t * 5 by omega]
  have hbs : bs dy fs bt D t u ≤ 300 := bs_le dy fs bt (by omega) u (fun v hv hb => by have := (hD v (by omega) hb).2; have := (m5 v (by omega)).1; omega)
  have hs : bs dy fs bt D t (u + 1) = @ite Nat (ibit u (bt t) ∧ bs dy fs bt D t u < D u + dy u) (Classical.propDecidable _) (D u + dy u) (bs dy fs bt D t u) := rfl
  refine ⟨some (.int (J 75 u + nI (dy u))), ?_⟩
  show jv (e + 1) 358 71 _ _ _ = jv (e + 1) 358 71 _ _ _
  rw [B358_71, if_pos (show nI u < (7 : Int32) from nI_lt hu (by decide)), if_pos (j_in_nI hu (by decide)), nI_clamp (n := u) (by omega), g_at_10_0 hc]
  dsimp only [Option.toList_some, List.cons_append, List.nil_append]
  rw [B358_98, if_pos (show j_in (nI (844 + u * 5)) 1189 = true from j_in_nI (by omega) (by decide)), a4, if_pos (show j_in (nI (848 + t * 5)) 1189 = true from j_in_nI (by omega) (by decide)), nI_clamp (n := 848 + t * 5) (by omega), nI_clamp (n := 844 + u * 5) (by omega), n9, q5]
  by_cases hb : ibit u (bt t)
  · obtain ⟨d1, d2⟩ := hD u hu hb
    rw [if_pos ((ibit_1 (by omega)).mpr hb), d1, nI_add]
    by_cases hlt : bs dy fs bt D t u < D u + dy u
    · rw [if_pos (nI_lt hlt (by omega)), B358_134, nI_1, hs, if_pos ⟨hb, hlt⟩]
    · rw [if_neg (nI_nlt (by omega) (by omega)), B358_132, B358_134, nI_1, hs, if_neg (fun q => hlt q.2)]
  · rw [if_neg (fun q => hb ((ibit_1 (by omega)).mp q)), B358_132, B358_134, nI_1, hs, if_neg (fun q => hb q.1)]
/-- the days of a task are used -/
theorem use_r (hM : pMod dy hd cr fs bt HA CA (J 6)) {t : Nat} (ht : t < 7) {a : Nat} (ha : a + dy t ≤ 400) (l1 l2 l3 l4 : Int32) (o8 : Option Value) : ∀ i, i ≤ dy t → ∃ J' : Nat → Nat → Int32, (∀ c, c ≠ 76 → c ≠ 77 → J' c = J c) ∧ (∀ x, J' 76 x = if a ≤ x ∧ x < a + i then J 76 x + nI (hd t) else J 76 x) ∧ (∀ x, J' 77 x = if a ≤ x ∧ x < a + i then J 77 x + nI (cr t) else J 77 x) ∧ jv e 358 172 [some (.ref 0), some (.int l1), some (.int l2), some (.int l3), some (.int l4), some (.int (nI (844 + t * 5))), some (.int (nI a)), some (.int (nI a)), o8] [] (shR, J, L', pR) = jv e 358 172 [some (.ref 0), some (.int l1), some (.int l2), some (.int l3), some (.int l4), some (.int (nI (844 + t * 5))), some (.int (nI a)), some (.int (nI (a + i))), o8] [] (shR, J', L', pR) := by
  obtain ⟨m1, m2, m3, m4, m5⟩ := hM
  obtain ⟨n1, n2, n3, n4, n5, n6, n7, n8, n9⟩ := m5 t ht
  have a1 : nI (844 + t * 5) + 1 = nI (845 + t * 5) := by rw [nI_1, show 844 + t * 5 + 1 = 845 + t * 5 by omega]
  have a2 : nI (844 + t * 5) + 2 = nI (846 + t * 5) := by rw [show nI (844 + t * 5) + 2 = nI (844 + t * 5 + 2) from nI_add _ 2, show 844 + t * 5 + 2 = 846 + t * 5 by omega]
  have j0 : j_in (nI (844 + t * 5)) 1189 = true := j_in_nI (by omega) (by decide)
  have j1 : j_in (nI (845 + t * 5)) 1189 = true := j_in_nI (by omega) (by decide)
  have j2 : j_in (nI (846 + t * 5)) 1189 = true := j_in_nI (by omega) (by decide)
  have k0 : (nI (844 + t * 5)).toNatClampNeg = 844 + t * 5 := nI_clamp (by omega)
  have k1 : (nI (845 + t * 5)).toNatClampNeg = 845 + t * 5 := nI_clamp (by omega)
  have k2 : (nI (846 + t * 5)).toNatClampNeg = 846 + t * 5 := nI_clamp (by omega)
  intro i
  induction i with
  | zero => intro _; exact ⟨J, fun _ _ _ => rfl, fun x => by rw [if_neg (by omega)], fun x => by rw [if_neg (by omega)], rfl⟩
  | succ i ih =>
    intro hi
    obtain ⟨J1, b1, b2, b3, b4⟩ := ih (by omega)
    have jx : j_in (nI (a + i)) 400 = true := j_in_nI (by omega) (by decide)
    have kx : (nI (a + i)).toNatClampNeg = a + i := nI_clamp (by omega)
    have c6 : J1 6 = J 6 := b1 6 (by decide) (by decide)
    refine ⟨j_up (j_up J1 76 (a + i) (J1 76 (a + i) + nI (hd t))) 77 (a + i) (J1 77 (a + i) + nI (cr t)), fun c x y => by rw [j_up_cell _ y, j_up_cell _ x, b1 c x y], fun x => ?_, fun x => ?_, ?_⟩
    · rw [j_up_cell _ (by decide), j_up_own]
      by_cases hx : x = a + i
      · rw [if_pos hx, hx, b2, if_neg (by omega), if_pos (by omega)]
      · rw [if_neg hx, b2]
        by_cases h1 : a ≤ x ∧ x < a + i
        · rw [if_pos h1, if_pos (by omega)]
        · rw [if_neg h1, if_neg (by omega)]
    · rw [j_up_own, j_up_cell _ (by decide)]
      by_cases hx : x = a + i
      · rw [if_pos hx, hx, b3, if_neg (by omega), if_pos (by omega)]
      · rw [if_neg hx, b3]
        by_cases h1 : a ≤ x ∧ x < a + i
        · rw [if_pos h1, if_pos (by omega)]
        · rw [if_neg h1, if_neg (by omega)]
    · rw [b4, B358_172, if_pos j0, k0, c6, n5, nI_add, if_pos (nI_lt (by omega) (by omega)), a1, a2]
      simp only [jx, j1, j2, ↓reduceIte]
      rw [kx, k1, k2, n6, j_up_cell J1 (show (77 : Nat) ≠ 76 by decide), j_up_cell J1 (show (6 : Nat) ≠ 76 by decide), c6, n7, nI_1]
      rfl
end PLANR
