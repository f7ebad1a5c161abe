/-! WORK PLANNED: orders that are no better (the reference); the first day, the hands (the class) -/
theorem la_ext {dy o D : Nat → Nat} {n t d : Nat} (hne : ∀ i, i < n → o i ≠ t) : la dy (fun i => if i = n then t else o i) (fun u => if u = t then d else D u) (n + 1) = if la dy o D n < d + dy t then d + dy t else la dy o D n := by
  have cL : la dy (fun i => if i = n then t else o i) (fun u => if u = t then d else D u) n = la dy o D n := la_congr dy (fun i hi => if_neg (by omega)) (fun i hi => if_neg (hne i hi))
  show (if la dy (fun i => if i = n then t else o i) (fun u => if u = t then d else D u) n < (if (if n = n then t else o n) = t then d else D (if n = n then t else o n)) + dy (if n = n then t else o n) then (if (if n = n then t else o n) = t then d else D (if n = n then t else o n)) + dy (if n = n then t else o n) else la dy (fun i => if i = n then t else o i) (fun u => if u = t then d else D u) n) = _
  rw [cL]
  simp only [↓reduceIte]
theorem pr_ne {dy hd cr fs : Nat → Nat} {bt : Nat → Int32} {HA CA : Nat} {o D : Nat → Nat} {n t : Nat} {done : Int32} (h : prO dy hd cr fs bt HA CA o D n done) (ht : t < 7) (hnew : ¬ ibit t done) : ∀ i, i < n → o i ≠ t := fun i hi q => hnew ((h.2.1 t ht).mpr ⟨i, hi, q⟩)
section PLANQ
variable {e : Nat} {L' : Nat → Nat → Int64} {dy hd cr fs : Nat → Nat} {bt : Nat → Int32} {HA CA : Nat} {many E : Nat}
def quiet (dy hd cr fs : Nat → Nat) (bt : Nat → Int32) (HA CA many E e n : Nat) (L' : Nat → Nat → Int64) : Prop := ∀ (J : Nat → Nat → Int32) (o D : Nat → Nat) (done : Int32), pMod dy hd cr fs bt HA CA (J 6) → rCst J → prO dy hd cr fs bt HA CA o D n done → (∀ i, i < n → J 74 i = nI (o i)) → J 0 121 = nI E → E ≤ la dy o D n → ∃ J' : Nat → Nat → Int32, (∀ c, c < 74 ∨ 77 < c → J' c = J c) ∧ (∀ i, i < n → J' 74 i = J 74 i) ∧ jv e 357 0 [some (.ref 0), some (.int (nI n)), some (.int (nI many)), some (.int done), none, none] [] (shR, J, L', pR) = some (none, (shR, J', L', pR))
theorem ord_loop {n : Nat} (hn : n < many) (hm : many ≤ 7) (hh : ∀ t, t < 7 → 0 < dy t → hd t ≤ HA ∧ cr t ≤ CA) (ih : quiet dy hd cr fs bt HA CA many E e (n + 1) L') (o D : Nat → Nat) (done : Int32) (hpr : prO dy hd cr fs bt HA CA o D n done) (hE2 : E ≤ la dy o D n) : ∀ m t, t + m = 7 → ∀ (J : Nat → Nat → Int32) (o5 : Option Value), pMod dy hd cr fs bt HA CA (J 6) → rCst J → (∀ i, i < n → J 74 i = nI (o i)) → J 0 121 = nI E → ∃ J' : Nat → Nat → Int32, (∀ c, c < 74 ∨ 77 < c → J' c = J c) ∧ (∀ i, i < n → J' 74 i = J 74 i) ∧ jv (e + 1) 357 14 [some (.ref 0), some (.int (nI n)), some (.int (nI many)), some (.int done), some (.int (nI t)), o5] [] (shR, J, L', pR) = some (none, (shR, J', L', pR)) := by
  intro m
  induction m with
  | zero =>
    intro t ht J o5 hM hc ho hE
    obtain rfl : t = 7 := by omega
    rw [B357_14, if_neg (by decide)]
    exact ⟨J, fun _ _ => rfl, fun _ _ => rfl, rfl⟩
  | succ m ihm =>
    intro t ht J o5 hM hc ho hE
    have ht7 : t < 7 := by omega
    obtain ⟨m1, m2, m3, m4, m5⟩ := id hM
    obtain ⟨n1, n2, n3, n4, n5, n6, n7, n8, n9⟩ := m5 t ht7
    have a4 : nI (844 + t * 5) + 4 = nI (848 + t * 5) := by rw [show nI (844 + t * 5) + 4 = nI (844 + t * 5 + 4) from nI_add _ 4, show 844 + t * 5 + 4 = 848 + t * 5 by omega]
    have nx : ∀ (J1 : Nat → Nat → Int32), (∀ c, c < 74 ∨ 77 < c → J1 c = J c) → (∀ i, i < n → J1 74 i = J 74 i) → ∃ J' : Nat → Nat → Int32, (∀ c, c < 74 ∨ 77 < c → J' c = J c) ∧ (∀ i, i < n → J' 74 i = J 74 i) ∧ jv (e + 1) 357 89 [some (.ref 0), some (.int (nI n)), some (.int (nI many)), some (.int done), some (.int (nI t)), some (.int (nI (844 + t * 5)))] [] (shR, J1, L', pR) = some (none, (shR, J', L', pR)) := fun J1 f1 f2 => by
      obtain ⟨J2, b1, b2, b3⟩ := ihm (t + 1) (by omega) J1 (some (.int (nI (844 + t * 5)))) (by rw [f1 6 (Or.inl (by decide))]; exact hM) (rCst_eq hc (fun c hc => f1 c (Or.inl (by omega)))) (fun i hi => by rw [f2 i hi]; exact ho i hi) (by rw [f1 0 (Or.inl (by decide))]; exact hE)
      refine ⟨J2, fun c hc => (b1 c hc).trans (f1 c hc), fun i hi => (b2 i hi).trans (f2 i hi), ?_⟩
      rw [B357_89, nI_1]
      exact b3
    rw [B357_14, if_pos (show nI t < (7 : Int32) from nI_lt ht7 (by decide)), g_at_10_0 hc]
    dsimp only [Option.toList_some, List.cons_append, List.nil_append]
    rw [B357_30, if_pos (show j_in (nI (844 + t * 5)) 1189 = true from j_in_nI (by omega) (by decide)), nI_clamp (n := 844 + t * 5) (by omega), n5]
    by_cases h0 : 0 < dy t
    · rw [if_pos (show (0 : Int32) < nI (dy t) from nI_lt (a := 0) h0 (by omega))]
      by_cases hb : ibit t done
      · rw [if_neg (fun q => (ibit_no (by omega)).mp q hb)]
        exact nx J (fun _ _ => rfl) (fun _ _ => rfl)
      · rw [if_pos ((ibit_no (by omega)).mpr hb), a4, if_pos (show j_in (nI (848 + t * 5)) 1189 = true from j_in_nI (by omega) (by decide)), nI_clamp (n := 848 + t * 5) (by omega), n9]
        by_cases hs : (bt t) &&& (done ^^^ (-1)) = 0
        · obtain ⟨d, d1, d2⟩ := pr_day dy hd cr fs bt HA CA hpr (by omega) (hh t ht7 h0).1 (hh t ht7 h0).2 hs
          have hp2 := pr_ext dy hd cr fs bt HA CA hpr ht7 h0 n1 hb hs d2 d1
          have hl := la_ext (dy := dy) (D := D) (d := d) (pr_ne hpr ht7 hb)
          rw [if_pos hs, if_pos (show j_in (nI n) 7 = true from j_in_nI (by omega) (by decide)), nI_clamp (n := n) (by omega), nI_1]
          obtain ⟨J2, b1, b2, b3⟩ := ih (j_up J 74 n (nI t)) _ _ _ (by rw [j_up_cell _ (by decide)]; exact hM) (rCst_eq hc (fun c hc => j_up_cell _ (by omega) _ _)) hp2 (fun i hi => by
            rw [j_up_own]
            by_cases hin : i = n
            · rw [if_pos hin]; show nI t = nI (if i = n then t else o i); rw [if_pos hin]
            · rw [if_neg hin]; show _ = nI (if i = n then t else o i); rw [if_neg hin]; exact ho i (by omega)) (by rw [j_up_cell _ (by decide)]; exact hE) (by rw [hl]; split <;> omega)
          rw [jgo_some (d := e) rfl b3]
          dsimp only [Option.toList_none, List.nil_append]
          exact nx J2 (fun c hc => by rw [b1 c hc, j_up_cell _ (by omega)]) (fun i hi => by rw [b2 i (by omega), j_up_own, if_neg (by omega)])
        · rw [if_neg hs]
          exact nx J (fun _ _ => rfl) (fun _ _ => rfl)
    · rw [if_neg (show ¬ (0 : Int32) < nI (dy t) from nI_nlt (a := 0) (b := dy t) (by omega) (by decide))]
      exact nx J (fun _ _ => rfl) (fun _ _ => rfl)
theorem ord_no (hm : many ≤ 7) (hh : ∀ t, t < 7 → 0 < dy t → hd t ≤ HA ∧ cr t ≤ CA) : ∀ m n, n + m = many → quiet dy hd cr fs bt HA CA many E (e + 3 + m) n L' := by
  intro m
  induction m with
  | zero =>
    intro n hn J o D done hM hc hpr ho hE hE2
    obtain rfl : n = many := by omega
    obtain ⟨J', b1, b2⟩ := sch_no (e := e) (L' := L') hM hc hm hpr ho hE hE2
    rw [B357_0, if_pos rfl, jgo_some (d := e + 2) rfl b2]
    dsimp only [Option.toList_none, List.nil_append]
    rw [B357_10]
    exact ⟨J', fun c hc => b1 c (by omega) (by omega) (by omega), fun i hi => by rw [b1 74 (by decide) (by decide) (by decide)], rfl⟩
  | succ m ih =>
    intro n hn J o D done hM hc hpr ho hE hE2
    rw [B357_0, if_neg (fun q => by have := (nI_eq (by omega) (by omega)).mp q; omega)]
    exact ord_loop (by omega) hm hh (ih (n + 1) (by omega)) o D done hpr hE2 7 0 rfl J none hM hc ho hE
end PLANQ
section PLANC
variable {d : Nat} {I : Nat → Nat → Int32} {L : Nat → Nat → Int64} {pa pb pu pw : Option Nat} {dy hd cr fs : Nat → Nat} {bt : Nat → Int32} {HA CA : Nat} {H C D : Nat → Nat}
theorem base_c (hM : pMod dy hd cr fs bt HA CA (I 2)) {t : Nat} (ht : t < 7) (hD : ∀ u, u < 7 → ibit u (bt t) → I 112 u = nI (D u) ∧ D u ≤ 200) : jv (d + 1) 137 22 [some (.ref 107), some (.ref 1), some (.int (nI t)), some (.int (nI (bs dy fs bt D t 0))), some (.int (bt t)), some (.int (nI 0)), none, none, none] [] (shC, I, L, pX pa pb pu pw) = jv (d + 1) 137 22 [some (.ref 107), some (.ref 1), some (.int (nI t)), some (.int (nI (bs dy fs bt D t 7))), some (.int (bt t)), some (.int (nI 7)), none, none, none] [] (shC, I, L, pX pa pb pu pw) := by
  obtain ⟨m1, m2, m3, m4, m5⟩ := hM
  obtain ⟨n1, n2, n3, n4, n5, n6, n7, n8, n9⟩ := m5 t ht
  refine j_run (fun u => jv (d + 1) 137 22 [some (.ref 107), some (.ref 1), some (.int (nI t)), some (.int (nI (bs dy fs bt D t u))), some (.int (bt t)), some (.int (nI u)), none, none, none] [] (shC, I, L, pX pa pb pu pw)) 7 (fun u hu => ?_)
  have q5 := (m5 u hu).2.2.2.2.1
  have qd := (m5 u hu).1
  have hbs : bs dy fs bt D t u ≤ 300 := bs_le dy fs bt (by omega) u (fun v hv hb => by have := (hD v (by omega) hb).2; have := (m5 v (by omega)).1; omega)
  have hs : bs dy fs bt D t (u + 1) = @ite Nat (ibit u (bt t) ∧ bs dy fs bt D t u < D u + dy u) (Classical.propDecidable _) (D u + dy u) (bs dy fs bt D t u) := rfl
  show jv (d + 1) 137 22 _ _ _ = jv (d + 1) 137 22 _ _ _
  rw [B137_22, if_pos (show nI u < (7 : Int32) from nI_lt hu (by decide))]
  by_cases hb : ibit u (bt t)
  · obtain ⟨d1, d2⟩ := hD u hu hb
    rw [if_neg (fun q => (ibit_no (by omega)).mp q hb), if_pos (j_in_nI hu (by decide)), nI_clamp (n := u) (by omega), d1, g_of1_10_0 hu]
    dsimp only [Option.toList_some, List.cons_append, List.nil_append]
    rw [B137_56, q5, nI_add, B137_61, nI_1, hs]
    by_cases hlt : bs dy fs bt D t u < D u + dy u
    · rw [if_pos (nI_lt hlt (by omega)), if_pos ⟨hb, hlt⟩]
    · rw [if_neg (nI_nlt (by omega) (by omega)), if_neg (fun q => hlt q.2)]
  · rw [if_pos ((ibit_no (by omega)).mpr hb), B137_61, nI_1, hs, if_neg (fun q => hb q.1)]
theorem scan_c {t a : Nat} (ht : t < 7) (h1 : hd t ≤ HA) (h2 : cr t ≤ CA) (hHA : HA ≤ 6) (hCA : CA ≤ 6) (hdy : dy t ≤ 20) (hH : ∀ x, x < 256 → I 114 x = nI (H x) ∧ I 115 x = nI (C x) ∧ H x ≤ 50 ∧ C x ≤ 50) (hst : isSt dy hd cr fs bt HA CA t D H C a) (ha : a + dy t ≤ 256) (l4 : Int32) : ∀ m day free, day + m = 256 → free ≤ dy t → free ≤ day → bs dy fs bt D t 7 ≤ day - free → (∀ x, day - free ≤ x → x < day → okD hd cr HA CA t H C x) → (∀ x, bs dy fs bt D t 7 ≤ x → x < day - free → ¬ fit dy hd cr HA CA t H C x) → jv d 137 118 [some (.ref 107), some (.ref 1), some (.int (nI t)), some (.int (nI day)), some (.int l4), some (.int (nI (dy t))), some (.int (nI (HA - hd t))), some (.int (nI (CA - cr t))), some (.int (nI free))] [] (shC, I, L, pX pa pb pu pw) = some (some (.int (nI a)), (shC, I, L, pX pa pb pu pw)) := by
  obtain ⟨s1, s2, s3⟩ := hst
  intro m
  induction m with
  | zero =>
    intro day free hm hf hfd hb hok hno
    obtain rfl : day = 256 := by omega
    have hle : 256 - free ≤ a := Nat.le_of_not_lt (fun q => hno a s1 q s2)
    have hfe : free = dy t := by omega
    have hae : a = 256 - free := by omega
    rw [B137_118, if_neg (by decide), B137_170, nI_sub (by omega), hae]
  | succ m ih =>
    intro day free hm hf hfd hb hok hno
    have hle : day - free ≤ a := Nat.le_of_not_lt (fun q => hno a s1 q s2)
    rw [B137_118, if_pos (show nI day < (256 : Int32) from nI_lt (b := 256) (by omega) (by decide))]
    by_cases hfr : free < dy t
    · obtain ⟨p1, p2, p3, p4⟩ := hH day (by omega)
      have jd : j_in (nI day) 256 = true := j_in_nI (by omega) (by decide)
      rw [if_pos (nI_lt hfr (by omega)), if_pos jd, nI_clamp (n := day) (by omega), p1, p2]
      have hbad : ¬ okD hd cr HA CA t H C day → jv d 137 161 [some (.ref 107), some (.ref 1), some (.int (nI t)), some (.int (nI day)), some (.int l4), some (.int (nI (dy t))), some (.int (nI (HA - hd t))), some (.int (nI (CA - cr t))), some (.int (nI free))] [] (shC, I, L, pX pa pb pu pw) = some (some (.int (nI a)), (shC, I, L, pX pa pb pu pw)) := fun hk => by
        rw [B137_161, B137_162, nI_1]
        refine ih (day + 1) 0 (by omega) (by omega) (by omega) (by omega) (fun x hx hx2 => by omega) (fun x hx hx2 => ?_)
        by_cases hxr : x < day - free
        · exact hno x hx hxr
        · exact fun hfit => hk (hfit day (by omega) (by omega))
      by_cases k1 : HA - hd t < H day
      · rw [if_pos (nI_lt k1 (by omega))]
        exact hbad (fun q => by unfold okD at q; omega)
      · rw [if_neg (nI_nlt (by omega) (by omega)), if_pos jd]
        by_cases k2 : CA - cr t < C day
        · rw [if_pos (nI_lt k2 (by omega))]
          exact hbad (fun q => by unfold okD at q; omega)
        · rw [if_neg (nI_nlt (by omega) (by omega)), B137_162, nI_1, nI_1]
          refine ih (day + 1) (free + 1) (by omega) (by omega) (by omega) (by omega) (fun x hx hx2 => ?_) (fun x hx hx2 => hno x hx (by omega))
          by_cases hxd : x = day
          · rw [hxd]; unfold okD; omega
          · exact hok x (by omega) (by omega)
    · have hfe : free = dy t := by omega
      have hae : a = day - free := by
        rcases Nat.lt_or_ge (day - free) a with z | z
        · exact absurd (fun x hx hx2 => hok x hx (by omega)) (s3 (day - free) hb z)
        · omega
      rw [if_neg (nI_nlt (by omega) (by omega)), B137_170, nI_sub hfd, hae]
theorem fday_c (hM : pMod dy hd cr fs bt HA CA (I 2)) {t a : Nat} (ht : t < 7) (h1 : hd t ≤ HA) (h2 : cr t ≤ CA) (hH : ∀ x, x < 256 → I 114 x = nI (H x) ∧ I 115 x = nI (C x) ∧ H x ≤ 50 ∧ C x ≤ 50) (hD : ∀ u, u < 7 → ibit u (bt t) → I 112 u = nI (D u) ∧ D u ≤ 200) (hst : isSt dy hd cr fs bt HA CA t D H C a) (ha : a + dy t ≤ 256) : jv (d + 1) 137 0 [some (.ref 107), some (.ref 1), some (.int (nI t)), none, none, none, none, none, none] [] (shC, I, L, pX pa pb pu pw) = some (some (.int (nI a)), (shC, I, L, pX pa pb pu pw)) := by
  obtain ⟨m1, m2, m3, m4, m5⟩ := id hM
  obtain ⟨n1, n2, n3, n4, n5, n6, n7, n8, n9⟩ := m5 t ht
  rw [B137_0, g_of1_10_3 ht]
  dsimp only [Option.toList_some, List.cons_append, List.nil_append]
  rw [B137_8, g_of1_10_4 ht]
  dsimp only [Option.toList_some, List.cons_append, List.nil_append]
  rw [B137_17, n8, n9]
  refine Eq.trans (base_c (d := d) (L := L) (pa := pa) (pb := pb) (pu := pu) (pw := pw) hM ht hD) ?_
  rw [B137_22, if_neg (by decide), g_of1_10_0 ht]
  dsimp only [Option.toList_some, List.cons_append, List.nil_append]
  rw [B137_75, g_of1_0_6, n5]
  dsimp only [Option.toList_some, List.cons_append, List.nil_append]
  rw [B137_85, g_of1_10_1 ht, m3]
  dsimp only [Option.toList_some, List.cons_append, List.nil_append]
  rw [B137_93, g_of1_0_7, n6, nI_sub h1]
  dsimp only [Option.toList_some, List.cons_append, List.nil_append]
  rw [B137_104, g_of1_10_2 ht, m4]
  dsimp only [Option.toList_some, List.cons_append, List.nil_append]
  rw [B137_112, n7, nI_sub h2]
  exact scan_c (d := d + 1) ht h1 h2 m1 m2 n1 hH hst ha (bt t) (256 - bs dy fs bt D t 7) (bs dy fs bt D t 7) 0 (by have := hst.1; omega) (by omega) (by omega) (by omega) (fun x hx hx2 => by omega) (fun x hx hx2 => by omega)
/-- the days of a task, used or freed -/
theorem occ_c (hM : pMod dy hd cr fs bt HA CA (I 2)) {t a : Nat} (ht : t < 7) (hD : I 112 t = nI a) (ha : a + dy t ≤ 256) (s : Int32) : ∃ I' : Nat → Nat → Int32, (∀ c, c ≠ 114 → c ≠ 115 → I' c = I c) ∧ (∀ x, I' 114 x = if a ≤ x ∧ x < a + dy t then I 114 x + s * nI (hd t) else I 114 x) ∧ (∀ x, I' 115 x = if a ≤ x ∧ x < a + dy t then I 115 x + s * nI (cr t) else I 115 x) ∧ jv (d + 1) 138 0 [some (.ref 107), some (.ref 1), some (.int (nI t)), some (.int s), none, none, none, none, none] [] (shC, I, L, pX pa pb pu pw) = some (none, (shC, I', L, pX pa pb pu pw)) := by
  obtain ⟨m1, m2, m3, m4, m5⟩ := id hM
  obtain ⟨n1, n2, n3, n4, n5, n6, n7, n8, n9⟩ := m5 t ht
  have emin : (if nI a + nI (dy t) < (256 : Int32) then nI a + nI (dy t) else 256) = nI (a + dy t) := by
    rw [nI_add]
    by_cases h : a + dy t < 256
    · rw [if_pos (show nI (a + dy t) < (256 : Int32) from nI_lt (b := 256) h (by decide))]
    · rw [if_neg (show ¬ nI (a + dy t) < (256 : Int32) from nI_nlt (b := 256) (by omega) (by omega)), show a + dy t = 256 by omega]; rfl
  have e0 : jv (d + 1) 138 0 [some (.ref 107), some (.ref 1), some (.int (nI t)), some (.int s), none, none, none, none, none] [] (shC, I, L, pX pa pb pu pw) = jv (d + 1) 138 55 [some (.ref 107), some (.ref 1), some (.int (nI t)), some (.int s), some (.int (nI a)), some (.int (nI (a + dy t))), some (.int (s * nI (hd t))), some (.int (s * nI (cr t))), some (.int (nI a))] [] (shC, I, L, pX pa pb pu pw) := by
    rw [B138_0, if_pos (j_in_nI ht (by decide)), nI_clamp (n := t) (by omega), hD, g_of1_10_0 ht]
    dsimp only [Option.toList_some, List.cons_append, List.nil_append]
    rw [B138_21, n5, emin, g_of1_10_1 ht]
    dsimp only [Option.toList_some, List.cons_append, List.nil_append]
    rw [B138_36, n6, g_of1_10_2 ht]
    dsimp only [Option.toList_some, List.cons_append, List.nil_append]
    rw [B138_48, n7]
  have key : ∀ i, i ≤ dy t → ∃ I' : Nat → Nat → Int32, (∀ c, c ≠ 114 → c ≠ 115 → I' c = I c) ∧ (∀ x, I' 114 x = if a ≤ x ∧ x < a + i then I 114 x + s * nI (hd t) else I 114 x) ∧ (∀ x, I' 115 x = if a ≤ x ∧ x < a + i then I 115 x + s * nI (cr t) else I 115 x) ∧ jv (d + 1) 138 55 [some (.ref 107), some (.ref 1), some (.int (nI t)), some (.int s), some (.int (nI a)), some (.int (nI (a + dy t))), some (.int (s * nI (hd t))), some (.int (s * nI (cr t))), some (.int (nI a))] [] (shC, I, L, pX pa pb pu pw) = jv (d + 1) 138 55 [some (.ref 107), some (.ref 1), some (.int (nI t)), some (.int s), some (.int (nI a)), some (.int (nI (a + dy t))), some (.int (s * nI (hd t))), some (.int (s * nI (cr t))), some (.int (nI (a + i)))] [] (shC, I', L, pX pa pb pu pw) := by
    intro i
    induction i with
    | zero => intro _; exact ⟨I, fun _ _ _ => rfl, fun x => by rw [if_neg (by omega)], fun x => by rw [if_neg (by omega)], rfl⟩
    | succ i ih =>
      intro hi
      obtain ⟨I1, b1, b2, b3, b4⟩ := ih (by omega)
      have jx : j_in (nI (a + i)) 256 = true := j_in_nI (by omega) (by decide)
      have kx : (nI (a + i)).toNatClampNeg = a + i := nI_clamp (by omega)
      refine ⟨j_up (j_up I1 114 (a + i) (I1 114 (a + i) + s * nI (hd t))) 115 (a + i) (I1 115 (a + i) + s * nI (cr t)), fun c x y => by rw [j_up_cell _ y, j_up_cell _ x, b1 c x y], fun x => ?_, fun x => ?_, ?_⟩
      · rw [j_up_cell _ (by decide), j_up_own]
        by_cases hx : x = a + i
        · rw [if_pos hx, hx, b2, if_neg (by omega), if_pos (by omega)]
        · rw [if_neg hx, b2]
          by_cases h1 : a ≤ x ∧ x < a + i
          · rw [if_pos h1, if_pos (by omega)]
          · rw [if_neg h1, if_neg (by omega)]
      · rw [j_up_own, j_up_cell _ (by decide)]
        by_cases hx : x = a + i
        · rw [if_pos hx, hx, b3, if_neg (by omega), if_pos (by omega)]
        · rw [if_neg hx, b3]
          by_cases h1 : a ≤ x ∧ x < a + i
          · rw [if_pos h1, if_pos (by omega)]
          · rw [if_neg h1, if_neg (by omega)]
      · rw [b4, B138_55, if_pos (nI_lt (by omega) (by omega))]
        simp only [jx, ↓reduceIte]
        rw [kx, j_up_cell I1 (show (115 : Nat) ≠ 114 by decide), nI_1]
        rfl
  obtain ⟨I1, b1, b2, b3, b4⟩ := key (dy t) (Nat.le_refl _)
  refine ⟨I1, b1, b2, b3, e0.trans (b4.trans ?_)⟩
  rw [B138_55, if_neg (nI_nlt (Nat.le_refl _) (by omega))]
end PLANC
