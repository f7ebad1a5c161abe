/-! write, feed, crash, piece -/
/-- four bytes of the tape, the first j of them -/
def tw (f : Nat → Int32) (n a : Nat) : Nat → Int32
  | 0 => 0
  | j + 1 => (tw f n a j <<< ((8 : Int32) &&& 31)) ||| (if a + j < n then f (a + j) &&& 255 else 0)
theorem tw_eq {f g : Nat → Int32} {n : Nat} (h : ∀ i, i < n → f i = g i) (a : Nat) : ∀ j, tw f n a j = tw g n a j := by
  intro j
  induction j with
  | zero => rfl
  | succ j ih =>
    show (tw f n a j <<< ((8 : Int32) &&& 31)) ||| (if a + j < n then f (a + j) &&& 255 else 0) = (tw g n a j <<< ((8 : Int32) &&& 31)) ||| (if a + j < n then g (a + j) &&& 255 else 0)
    rw [ih]
    by_cases hj : a + j < n
    · rw [if_pos hj, if_pos hj, h _ hj]
    · rw [if_neg hj, if_neg hj]
theorem okV_text {q : Nat} (h : 889 ≤ q) (v : Int32) : okV q v := by
  refine ⟨fun a b c ha hb hc he => ?_, fun he => by omega⟩
  have h1 := tab_place (by omega) hb hc
  have h2 : fpN.getD (a + 1) 0 ≤ 888 := by
    have : ∀ a, a < 12 → fpN.getD (a + 1) 0 ≤ 888 := by decide +kernel
    exact this a ha
  omega
theorem okV_888 {n : Nat} (hn : n ≤ 1200) : okV 888 (nI n) := by
  refine ⟨fun a b c ha hb hc he => ?_, fun _ => ⟨n, hn, rfl⟩⟩
  have h1 := tab_place (by omega) hb hc
  have h2 : fpN.getD (a + 1) 0 ≤ 888 := by
    have : ∀ a, a < 12 → fpN.getD (a + 1) 0 ≤ 888 := by decide +kernel
    exact this a ha
  omega
theorem row_text : ∀ k, k < 301 → rowN.getD (888 + k) 0 = 147 := by
  intro k hk
  have h := tab_row 12 (by decide) k (by show k < 1 * 301; omega)
  have h2 : k / 301 = 0 := Nat.div_eq_of_lt hk
  rw [show fpN.getD 12 0 = 888 from rfl, show fieldsN.getD 12 0 = 301 from rfl, h2] at h
  exact h
section WRI
variable {d e : Nat} {I J : Nat → Nat → Int32} {L L' : Nat → Nat → Int64} {pa pb pu pw : Option Nat} {K : Option Value → jS → jO}
theorem tint_c {n a : Nat} (hn : I 0 7 = nI n) (hn2 : n ≤ 1200) (ha : a + 4 ≤ 1200) (o2 o3 : Option Value) : jv d 175 0 [some (.ref 0), some (.int (nI a)), o2, o3] [] (shC, I, L, pX pa pb pu pw) = some (some (.int (tw (I 26) n a 4)), (shC, I, L, pX pa pb pu pw)) := by
  rw [B175_0]
  have h := j_run (fun j => jv d 175 4 [some (.ref 0), some (.int (nI a)), some (.int (tw (I 26) n a j)), some (.int (nI (a + j)))] [] (shC, I, L, pX pa pb pu pw)) 4 (fun j hj => by
    show jv d 175 4 _ _ _ = jv d 175 4 [_, _, some (.int ((tw (I 26) n a j <<< ((8 : Int32) &&& 31)) ||| (if a + j < n then I 26 (a + j) &&& 255 else 0))), _] _ _
    have e4 : nI a + 4 = nI (a + 4) := nI_add a 4
    rw [B175_4, e4, if_pos (show nI (a + j) < nI (a + 4) from nI_lt (by omega) (by omega)), if_neg (nI_pos (by omega)), hn]
    by_cases hx : a + j < n
    · rw [if_pos hx, if_pos (nI_lt hx (by omega)), if_pos (j_in_nI (by omega) (by decide)), nI_clamp (by omega), B175_41, nI_1]
      rfl
    · rw [if_neg hx, if_neg (nI_nlt (by omega) (by omega)), B175_40, B175_41, nI_1]
      rfl)
  refine Eq.trans h ?_
  have e4 : nI a + 4 = nI (a + 4) := nI_add a 4
  rw [B175_4, e4, if_neg (nI_nlt (Nat.le_refl _) (by omega))]
theorem g_tint {n a : Nat} (hn : I 0 7 = nI n) (hn2 : n ≤ 1200) (ha : a + 4 ≤ 1200) : jgo jTT jMM (d + 1) 175 [.ref 0, .int (nI a)] (shC, I, L, pX pa pb pu pw) K = K (some (.int (tw (I 26) n a 4))) (shC, I, L, pX pa pb pu pw) := jgo_some rfl (tint_c hn hn2 ha none none)
theorem tint_r {n k : Nat} (hn : J 0 20 = nI n) (hn2 : n ≤ 1200) (hk : k < 300) (x y : Int32) : jv e 228 64 [some (.ref 0), some (.int x), some (.int y), some (.int (nI k)), some (.int 0), some (.int 0)] [] (shR, J, L', pR) = jv e 228 64 [some (.ref 0), some (.int x), some (.int y), some (.int (nI k)), some (.int (tw (J 17) n (4 * k) 4)), some (.int (nI 4))] [] (shR, J, L', pR) := by
  refine j_run (fun j => jv e 228 64 [some (.ref 0), some (.int x), some (.int y), some (.int (nI k)), some (.int (tw (J 17) n (4 * k) j)), some (.int (nI j))] [] (shR, J, L', pR)) 4 (fun j hj => ?_)
  show jv e 228 64 _ _ _ = jv e 228 64 [_, _, _, _, some (.int ((tw (J 17) n (4 * k) j <<< ((8 : Int32) &&& 31)) ||| (if 4 * k + j < n then J 17 (4 * k + j) &&& 255 else 0))), _] _ _
  have e4 : (4 : Int32) * nI k + nI j = nI (4 * k + j) := by rw [show (4 : Int32) = nI 4 from rfl, nI_mul, nI_add]
  rw [B228_64, if_pos (show nI j < (4 : Int32) from nI_lt hj (by decide)), e4, hn]
  by_cases hx : 4 * k + j < n
  · rw [if_pos hx, if_pos (nI_lt hx (by omega)), if_pos (j_in_nI (by omega) (by decide)), nI_clamp (by omega), B228_107, nI_1]
  · rw [if_neg hx, if_neg (nI_nlt (by omega) (by omega)), B228_107, nI_1]
/-- the words of the tape, from k on -/
theorem wlp_0 {n : Nat} (hn2 : n ≤ 1200) (hc0 : rCst J) : ∀ m k, k + m = 300 → ∀ (I1 J1 : Nat → Nat → Int32) (o4 o5 : Option Value), perRel 0 8 I1 J1 → J1 9 0 = 1 → I1 0 = I 0 → I1 26 = I 26 → I 0 7 = nI n → (∀ c, c < 9 ∨ 14 < c → J1 c = J c) → J 0 20 = nI n → (∀ i, i < n → I 26 i = J 17 i) → (∀ c, c ≠ 9 → c ≠ 10 → c ≠ 12 → I1 c = I c) → (∀ q b', q < 3 → q ≠ 0 → perRel q b' I J → (b' + 5 ≤ 8 ∨ 8 + 5 ≤ b') → perRel q b' I1 J1) → jW2 (jv (d + 1) 174 70 [some (.ref 0), some (.int 0), some (.int (nI n)), some (.int (nI 147)), some (.int (nI 888)), some (.int (nI k))] [] (shC, I1, L, pX pa pb pu pw)) (jv (e + 1) 228 51 [some (.ref 0), some (.int 0), some (.int (nI 888)), some (.int (nI k)), o4, o5] [] (shR, J1, L', pR)) (fun v S w T => ∃ I2 J2, v = some (.int (nI n)) ∧ w = some (.int (nI n)) ∧ S = (shC, I2, L, pX pa pb pu pw) ∧ T = (shR, J2, L', pR) ∧ perRel 0 8 I2 J2 ∧ J2 9 0 = 1 ∧ (∀ f, I2 0 f = if f = 7 then 0 else I 0 f) ∧ (∀ f, J2 0 f = if f = 20 then 0 else J 0 f) ∧ (∀ c, c ≠ 0 → c ≠ 9 → c ≠ 10 → c ≠ 12 → I2 c = I c) ∧ (∀ c, c ≠ 0 → c < 9 ∨ 14 < c → J2 c = J c) ∧ (∀ q b', q < 3 → q ≠ 0 → perRel q b' I J → 0 < b' → (b' + 5 ≤ 8 ∨ 8 + 5 ≤ b') → perRel q b' I2 J2)) := by
  intro m
  induction m with
  | zero =>
    intro k hk I1 J1 o4 o5 hp h9 hi0 hi26 hin hj hjn ht hfr hoth
    obtain rfl : k = 300 := by omega
    have j0 : J1 0 = J 0 := hj 0 (Or.inl (by decide))
    rw [B174_70_p0, if_neg (by decide), B228_51, if_neg (by decide)]
    have e1 : J1 0 20 = nI n := by rw [j0]; exact hjn
    rw [e1]
    refine jW2_some ⟨j_up I1 0 7 0, j_up J1 0 20 0, rfl, rfl, rfl, rfl, hp.eq (fun c h1 h2 => j_up_cell _ (by omega) _ _) (by rw [j_up_cell _ (by decide)]) (by rw [j_up_cell _ (by decide)]) (fun q hq => by rw [j_up_cell _ (by decide), j_up_cell _ (by decide)]; exact ⟨rfl, rfl⟩) (fun r hr => by rw [j_up_cell _ (by decide), j_up_cell _ (by decide)]; exact ⟨rfl, rfl⟩), by rw [j_up_cell _ (by decide)]; exact h9, fun f => by rw [j_up_own, hi0], fun f => by rw [j_up_own, j0], fun c x y z w => by rw [j_up_cell _ x, hfr c y z w], fun c x y => by rw [j_up_cell _ x, hj c y], fun q b' hq hqp hr hb0 hb => ?_⟩
    exact (hoth q b' hq hqp hr hb).eq (fun c h1 h2 => j_up_cell _ (by omega) _ _) (by rw [j_up_cell _ (by decide)]) (by rw [j_up_cell _ (by decide)]) (fun q hq => by rw [j_up_cell _ (by decide), j_up_cell _ (by decide)]; exact ⟨rfl, rfl⟩) (fun r hr => by rw [j_up_cell _ (by decide), j_up_cell _ (by decide)]; exact ⟨rfl, rfl⟩)
  | succ m ih =>
    intro k hk I1 J1 o4 o5 hp h9 hi0 hi26 hin hj hjn ht hfr hoth
    have hk3 : k < 300 := by omega
    have hc : rCst J1 := rCst_eq hc0 (fun c hc => hj c (Or.inl (by omega)))
    have e1 : J1 0 20 = nI n := by rw [hj 0 (Or.inl (by decide))]; exact hjn
    have e2 : I1 0 7 = nI n := by rw [hi0]; exact hin
    have w1 : tw (I1 26) n (4 * k) 4 = tw (J1 17) n (4 * k) 4 := tw_eq (fun i hi => by rw [hi26, hj 17 (Or.inr (by decide))]; exact ht i hi) _ _
    have a4 : (4 : Int32) * nI k = nI (4 * k) := nI_mul 4 k
    have a9 : nI 888 + 1 + nI k = nI (889 + k) := by rw [nI_1, nI_add]
    have hrw : rowN.getD (889 + k) 0 = 147 := by rw [show 889 + k = 888 + (k + 1) by omega]; exact row_text (k + 1) (by omega)
    have gs := fun K => g_set_r0 (d := e) (L' := L') (K := K) hc (show 889 + k < 1189 by omega) (by rw [hrw]; decide) (tw (J1 17) n (4 * k) 4)
    rw [hrw] at gs
    rw [B174_70_p0, if_pos (show nI k < (300 : Int32) from nI_lt hk3 (by decide)), if_pos jin_03, a4, g_tint e2 hn2 (by omega)]
    dsimp only [Option.toList_some, List.cons_append, List.nil_append]
    rw [B174_100_p0, a9, g_set_8 (show 889 + k < 1189 by omega) (show 147 < 148 by decide)]
    dsimp only [Option.toList_none, List.nil_append]
    rw [B174_103_p0, nI_1 k, B228_51, if_pos (show nI k < (300 : Int32) from nI_lt hk3 (by decide)), tint_r e1 hn2 hk3, B228_64, if_neg (by decide), a9, gs]
    dsimp only [Option.toList_none, List.nil_append]
    rw [B228_128, nI_1 k, w1]
    generalize tw (J1 17) n (4 * k) 4 = v
    have io : ∀ c, c ≠ 9 → c ≠ 10 → c ≠ 12 → stI8 I1 (889 + k) 147 v c = I1 c := fun c x y z => by unfold stI8; rw [j_up_cell _ z, j_up_cell _ y, j_up_cell _ x]
    have jo : ∀ c, c ≠ 11 → c ≠ 12 → c ≠ 13 → c ≠ 14 → setJ 0 (889 + k) 147 v J1 c = J1 c := fun c x y z u => by unfold setJ; rw [j_up_cell _ y, j_up_cell _ x, j_up_cell _ u, j_up_cell _ z]
    refine ih (k + 1) (by omega) _ _ _ _ (wri_0 hp h9 (by omega) (by decide) (okV_text (by omega) v)) (by rw [jo 9 (by decide) (by decide) (by decide) (by decide)]; exact h9) (by rw [io 0 (by decide) (by decide) (by decide)]; exact hi0) (by rw [io 26 (by decide) (by decide) (by decide)]; exact hi26) hin (fun c hc2 => by rw [jo c (by omega) (by omega) (by omega) (by omega)]; exact hj c hc2) hjn ht (fun c x y z => by rw [io c x y z]; exact hfr c x y z) (fun q b' hq hqp hr hb => (hoth q b' hq hqp hr hb).eq (fun c h1 h2 => io c (by omega) (by omega) (by omega)) (by rw [jo 9 (by decide) (by decide) (by decide) (by decide)]) (by rw [jo 10 (by decide) (by decide) (by decide) (by decide)]) (fun i hi => ?_) (fun r hr2 => ?_))
    · have x13 : ∀ j, j ≠ 0 * 1189 + (889 + k) → setJ 0 (889 + k) 147 v J1 13 j = J1 13 j ∧ setJ 0 (889 + k) 147 v J1 14 j = J1 14 j := fun j hj => by
        unfold setJ
        rw [j_up_cell _ (by decide), j_up_cell _ (by decide), j_up_cell _ (by decide), j_up_own, if_neg hj, j_up_cell _ (by decide), j_up_cell _ (by decide), j_up_own, if_neg hj, j_up_cell _ (by decide)]
        exact ⟨rfl, rfl⟩
      exact x13 _ (by rcases Nat.lt_or_gt_of_ne hqp with z | z <;> omega)
    · have x11 : ∀ j, j ≠ 0 * 148 + 147 → setJ 0 (889 + k) 147 v J1 11 j = J1 11 j ∧ setJ 0 (889 + k) 147 v J1 12 j = J1 12 j := fun j hj => by
        unfold setJ
        rw [j_up_cell _ (by decide), j_up_own, if_neg hj, j_up_cell _ (by decide), j_up_cell _ (by decide), j_up_own, if_neg hj, j_up_cell _ (by decide), j_up_cell _ (by decide), j_up_cell _ (by decide)]
        exact ⟨rfl, rfl⟩
      exact x11 _ (by rcases Nat.lt_or_gt_of_ne hqp with z | z <;> omega)
theorem write_0 {n : Nat} (h : perRel 0 8 I J) (h0 : I 0 11 = J 0 18) (hc : rCst J) (hn2 : n ≤ 1200) (hin : I 0 7 = nI n) (hjn : J 0 20 = nI n) (ht : ∀ i, i < n → I 26 i = J 17 i) : jAsk (jv (d + 1) 174 0 [some (.ref 0), some (.int 0), none, none, none, none] [] (shC, I, L, pX pa pb pu pw)) (jv (e + 1) 228 0 [some (.ref 0), some (.int 0), none, none, none, none] [] (shR, J, L', pR)) (shC, I, L, pX pa pb pu pw) (shR, J, L', pR) ∨ jW2 (jv (d + 1) 174 0 [some (.ref 0), some (.int 0), none, none, none, none] [] (shC, I, L, pX pa pb pu pw)) (jv (e + 1) 228 0 [some (.ref 0), some (.int 0), none, none, none, none] [] (shR, J, L', pR)) (fun v S w T => ∃ I2 J2, v = some (.int (nI n)) ∧ w = some (.int (nI n)) ∧ S = (shC, I2, L, pX pa pb pu pw) ∧ T = (shR, J2, L', pR) ∧ perRel 0 8 I2 J2 ∧ J2 9 0 = 1 ∧ (∀ f, I2 0 f = if f = 7 then 0 else I 0 f) ∧ (∀ f, J2 0 f = if f = 20 then 0 else J 0 f) ∧ (∀ c, c ≠ 0 → c ≠ 9 → c ≠ 10 → c ≠ 12 → I2 c = I c) ∧ (∀ c, c ≠ 0 → c < 9 ∨ 14 < c → J2 c = J c) ∧ (∀ q b', q < 3 → q ≠ 0 → perRel q b' I J → 0 < b' → (b' + 5 ≤ 8 ∨ 8 + 5 ≤ b') → perRel q b' I2 J2)) := by
  obtain ⟨q1, q2, q3⟩ := id h
  by_cases hd : I 0 11 = 0
  · have hd' : J 0 18 = 0 := h0 ▸ hd
    by_cases hb : I 8 0 = 0
    · left
      have hb' : J 9 0 = 0 := q1 ▸ hb
      refine ⟨.int (-2), ?_, ?_⟩
      · simp (decide := true) only [B174_0_p0, g_per_c, perv, B174_4_p0, hd, hb, jin_03, ↓reduceIte, Option.toList_some, Option.toList_none, List.cons_append, List.nil_append, List.append_nil]
      · simp (decide := true) only [B228_0, g_per_r, perv, B228_4, hd', hb', cl_0, jin_03, ↓reduceIte, Option.toList_some, Option.toList_none, List.cons_append, List.nil_append, List.append_nil]
    · right
      have hb' : ¬ J 9 0 = 0 := q1 ▸ hb
      have h9 := i01_ne q2 hb'
      have x1 : z_3.getD (12 : Int32).toNatClampNeg 0 = nI 888 := by decide +kernel
      have x2 : z_2.getD (12 : Int32).toNatClampNeg 0 = nI 147 := by decide +kernel
      have x3 : J 4 (12 : Int32).toNatClampNeg = nI 888 := hc.2.2.2.1 12 (by decide)
      have j12 : j_in 12 13 = true := by decide
      have hrw : rowN.getD 888 0 = 147 := row_text 0 (by decide)
      have gs := fun K => g_set_r0 (d := e) (L' := L') (K := K) hc (show 888 < 1189 by decide) (by rw [hrw]; decide) (nI n)
      rw [hrw] at gs
      have io : ∀ c, c ≠ 9 → c ≠ 10 → c ≠ 12 → stI8 I 888 147 (nI n) c = I c := fun c x y z => by unfold stI8; rw [j_up_cell _ z, j_up_cell _ y, j_up_cell _ x]
      have jo : ∀ c, c ≠ 11 → c ≠ 12 → c ≠ 13 → c ≠ 14 → setJ 0 888 147 (nI n) J c = J c := fun c x y z u => by unfold setJ; rw [j_up_cell _ y, j_up_cell _ x, j_up_cell _ u, j_up_cell _ z]
      have ec : jv (d + 1) 174 0 [some (.ref 0), some (.int 0), none, none, none, none] [] (shC, I, L, pX pa pb pu pw) = jv (d + 1) 174 70 [some (.ref 0), some (.int 0), some (.int (nI n)), some (.int (nI 147)), some (.int (nI 888)), some (.int (nI 0))] [] (shC, stI8 I 888 147 (nI n), L, pX pa pb pu pw) := by
        simp (decide := true) only [B174_0_p0, g_per_c, perv, B174_4_p0, hd, hb, jin_03, j12, x1, x2, hin, g_set_8 (show 888 < 1189 by decide) (show 147 < 148 by decide), B174_67_p0, ↓reduceIte, Option.toList_some, Option.toList_none, List.cons_append, List.nil_append, List.append_nil]
        rfl
      have er : jv (e + 1) 228 0 [some (.ref 0), some (.int 0), none, none, none, none] [] (shR, J, L', pR) = jv (e + 1) 228 51 [some (.ref 0), some (.int 0), some (.int (nI 888)), some (.int (nI 0)), none, none] [] (shR, setJ 0 888 147 (nI n) J, L', pR) := by
        simp (decide := true) only [B228_0, g_per_r, perv, B228_4, hd', hb', cl_0, jin_03, j12, x3, hjn, gs, B228_49, ↓reduceIte, Option.toList_some, Option.toList_none, List.cons_append, List.nil_append, List.append_nil]
        rfl
      rw [ec, er]
      refine wlp_0 (I := I) (J := J) hn2 hc 300 0 rfl _ _ none none (wri_0 h h9 (by decide) (by decide) (okV_888 hn2)) (by rw [jo 9 (by decide) (by decide) (by decide) (by decide)]; exact h9) (io 0 (by decide) (by decide) (by decide)) (io 26 (by decide) (by decide) (by decide)) hin (fun c hc2 => jo c (by omega) (by omega) (by omega) (by omega)) hjn ht io (fun q b' hq hqp hr hb => hr.eq (fun c h1 h2 => io c (by omega) (by omega) (by omega)) (by rw [jo 9 (by decide) (by decide) (by decide) (by decide)]) (by rw [jo 10 (by decide) (by decide) (by decide) (by decide)]) (fun i hi => ?_) (fun r hr2 => ?_))
      · have x13 : ∀ j, j ≠ 0 * 1189 + 888 → setJ 0 888 147 (nI n) J 13 j = J 13 j ∧ setJ 0 888 147 (nI n) J 14 j = J 14 j := fun j hj => by
          unfold setJ
          rw [j_up_cell _ (by decide), j_up_cell _ (by decide), j_up_cell _ (by decide), j_up_own, if_neg hj, j_up_cell _ (by decide), j_up_cell _ (by decide), j_up_own, if_neg hj, j_up_cell _ (by decide)]
          exact ⟨rfl, rfl⟩
        exact x13 _ (by rcases Nat.lt_or_gt_of_ne hqp with z | z <;> omega)
      · have x11 : ∀ j, j ≠ 0 * 148 + 147 → setJ 0 888 147 (nI n) J 11 j = J 11 j ∧ setJ 0 888 147 (nI n) J 12 j = J 12 j := fun j hj => by
          unfold setJ
          rw [j_up_cell _ (by decide), j_up_own, if_neg hj, j_up_cell _ (by decide), j_up_cell _ (by decide), j_up_own, if_neg hj, j_up_cell _ (by decide), j_up_cell _ (by decide), j_up_cell _ (by decide)]
          exact ⟨rfl, rfl⟩
        exact x11 _ (by rcases Nat.lt_or_gt_of_ne hqp with z | z <;> omega)
  · left
    have hd' : ¬ J 0 18 = 0 := h0 ▸ hd
    refine ⟨.int (-3), ?_, ?_⟩
    · simp (decide := true) only [B174_0_p0, g_per_c, perv, B174_4_p0, hd, ↓reduceIte, Option.toList_some, Option.toList_none, List.cons_append, List.nil_append, List.append_nil]
    · simp (decide := true) only [B228_0, g_per_r, perv, B228_4, hd', ↓reduceIte, Option.toList_some, Option.toList_none, List.cons_append, List.nil_append, List.append_nil]
/-- the words of the tape, from k on -/
theorem wlp_1 {n : Nat} (hn2 : n ≤ 1200) (hc0 : rCst J) : ∀ m k, k + m = 300 → ∀ (I1 J1 : Nat → Nat → Int32) (o4 o5 : Option Value), perRel 1 13 I1 J1 → J1 9 1 = 1 → I1 0 = I 0 → I1 26 = I 26 → I 0 7 = nI n → (∀ c, c < 9 ∨ 14 < c → J1 c = J c) → J 0 20 = nI n → (∀ i, i < n → I 26 i = J 17 i) → (∀ c, c ≠ 14 → c ≠ 15 → c ≠ 17 → I1 c = I c) → (∀ q b', q < 3 → q ≠ 1 → perRel q b' I J → (b' + 5 ≤ 13 ∨ 13 + 5 ≤ b') → perRel q b' I1 J1) → jW2 (jv (d + 1) 174 70 [some (.ref 0), some (.int 1), some (.int (nI n)), some (.int (nI 147)), some (.int (nI 888)), some (.int (nI k))] [] (shC, I1, L, pX pa pb pu pw)) (jv (e + 1) 228 51 [some (.ref 0), some (.int 1), some (.int (nI 888)), some (.int (nI k)), o4, o5] [] (shR, J1, L', pR)) (fun v S w T => ∃ I2 J2, v = some (.int (nI n)) ∧ w = some (.int (nI n)) ∧ S = (shC, I2, L, pX pa pb pu pw) ∧ T = (shR, J2, L', pR) ∧ perRel 1 13 I2 J2 ∧ J2 9 1 = 1 ∧ (∀ f, I2 0 f = if f = 7 then 0 else I 0 f) ∧ (∀ f, J2 0 f = if f = 20 then 0 else J 0 f) ∧ (∀ c, c ≠ 0 → c ≠ 14 → c ≠ 15 → c ≠ 17 → I2 c = I c) ∧ (∀ c, c ≠ 0 → c < 9 ∨ 14 < c → J2 c = J c) ∧ (∀ q b', q < 3 → q ≠ 1 → perRel q b' I J → 0 < b' → (b' + 5 ≤ 13 ∨ 13 + 5 ≤ b') → perRel q b' I2 J2)) := by
  intro m
  induction m with
  | zero =>
    intro k hk I1 J1 o4 o5 hp h9 hi0 hi26 hin hj hjn ht hfr hoth
    obtain rfl : k = 300 := by omega
    have j0 : J1 0 = J 0 := hj 0 (Or.inl (by decide))
    rw [B174_70_p1, if_neg (by decide), B228_51, if_neg (by decide)]
    have e1 : J1 0 20 = nI n := by rw [j0]; exact hjn
    rw [e1]
    refine jW2_some ⟨j_up I1 0 7 0, j_up J1 0 20 0, rfl, rfl, rfl, rfl, hp.eq (fun c h1 h2 => j_up_cell _ (by omega) _ _) (by rw [j_up_cell _ (by decide)]) (by rw [j_up_cell _ (by decide)]) (fun q hq => by rw [j_up_cell _ (by decide), j_up_cell _ (by decide)]; exact ⟨rfl, rfl⟩) (fun r hr => by rw [j_up_cell _ (by decide), j_up_cell _ (by decide)]; exact ⟨rfl, rfl⟩), by rw [j_up_cell _ (by decide)]; exact h9, fun f => by rw [j_up_own, hi0], fun f => by rw [j_up_own, j0], fun c x y z w => by rw [j_up_cell _ x, hfr c y z w], fun c x y => by rw [j_up_cell _ x, hj c y], fun q b' hq hqp hr hb0 hb => ?_⟩
    exact (hoth q b' hq hqp hr hb).eq (fun c h1 h2 => j_up_cell _ (by omega) _ _) (by rw [j_up_cell _ (by decide)]) (by rw [j_up_cell _ (by decide)]) (fun q hq => by rw [j_up_cell _ (by decide), j_up_cell _ (by decide)]; exact ⟨rfl, rfl⟩) (fun r hr => by rw [j_up_cell _ (by decide), j_up_cell _ (by decide)]; exact ⟨rfl, rfl⟩)
  | succ m ih =>
    intro k hk I1 J1 o4 o5 hp h9 hi0 hi26 hin hj hjn ht hfr hoth
    have hk3 : k < 300 := by omega
    have hc : rCst J1 := rCst_eq hc0 (fun c hc => hj c (Or.inl (by omega)))
    have e1 : J1 0 20 = nI n := by rw [hj 0 (Or.inl (by decide))]; exact hjn
    have e2 : I1 0 7 = nI n := by rw [hi0]; exact hin
    have w1 : tw (I1 26) n (4 * k) 4 = tw (J1 17) n (4 * k) 4 := tw_eq (fun i hi => by rw [hi26, hj 17 (Or.inr (by decide))]; exact ht i hi) _ _
    have a4 : (4 : Int32) * nI k = nI (4 * k) := nI_mul 4 k
    have a9 : nI 888 + 1 + nI k = nI (889 + k) := by rw [nI_1, nI_add]
    have hrw : rowN.getD (889 + k) 0 = 147 := by rw [show 889 + k = 888 + (k + 1) by omega]; exact row_text (k + 1) (by omega)
    have gs := fun K => g_set_r1 (d := e) (L' := L') (K := K) hc (show 889 + k < 1189 by omega) (by rw [hrw]; decide) (tw (J1 17) n (4 * k) 4)
    rw [hrw] at gs
    rw [B174_70_p1, if_pos (show nI k < (300 : Int32) from nI_lt hk3 (by decide)), if_pos jin_13, a4, g_tint e2 hn2 (by omega)]
    dsimp only [Option.toList_some, List.cons_append, List.nil_append]
    rw [B174_100_p1, a9, g_set_13 (show 889 + k < 1189 by omega) (show 147 < 148 by decide)]
    dsimp only [Option.toList_none, List.nil_append]
    rw [B174_103_p1, nI_1 k, B228_51, if_pos (show nI k < (300 : Int32) from nI_lt hk3 (by decide)), tint_r e1 hn2 hk3, B228_64, if_neg (by decide), a9, gs]
    dsimp only [Option.toList_none, List.nil_append]
    rw [B228_128, nI_1 k, w1]
    generalize tw (J1 17) n (4 * k) 4 = v
    have io : ∀ c, c ≠ 14 → c ≠ 15 → c ≠ 17 → stI13 I1 (889 + k) 147 v c = I1 c := fun c x y z => by unfold stI13; rw [j_up_cell _ z, j_up_cell _ y, j_up_cell _ x]
    have jo : ∀ c, c ≠ 11 → c ≠ 12 → c ≠ 13 → c ≠ 14 → setJ 1 (889 + k) 147 v J1 c = J1 c := fun c x y z u => by unfold setJ; rw [j_up_cell _ y, j_up_cell _ x, j_up_cell _ u, j_up_cell _ z]
    refine ih (k + 1) (by omega) _ _ _ _ (wri_1 hp h9 (by omega) (by decide) (okV_text (by omega) v)) (by rw [jo 9 (by decide) (by decide) (by decide) (by decide)]; exact h9) (by rw [io 0 (by decide) (by decide) (by decide)]; exact hi0) (by rw [io 26 (by decide) (by decide) (by decide)]; exact hi26) hin (fun c hc2 => by rw [jo c (by omega) (by omega) (by omega) (by omega)]; exact hj c hc2) hjn ht (fun c x y z => by rw [io c x y z]; exact hfr c x y z) (fun q b' hq hqp hr hb => (hoth q b' hq hqp hr hb).eq (fun c h1 h2 => io c (by omega) (by omega) (by omega)) (by rw [jo 9 (by decide) (by decide) (by decide) (by decide)]) (by rw [jo 10 (by decide) (by decide) (by decide) (by decide)]) (fun i hi => ?_) (fun r hr2 => ?_))
    · have x13 : ∀ j, j ≠ 1 * 1189 + (889 + k) → setJ 1 (889 + k) 147 v J1 13 j = J1 13 j ∧ setJ 1 (889 + k) 147 v J1 14 j = J1 14 j := fun j hj => by
        unfold setJ
        rw [j_up_cell _ (by decide), j_up_cell _ (by decide), j_up_cell _ (by decide), j_up_own, if_neg hj, j_up_cell _ (by decide), j_up_cell _ (by decide), j_up_own, if_neg hj, j_up_cell _ (by decide)]
        exact ⟨rfl, rfl⟩
      exact x13 _ (by rcases Nat.lt_or_gt_of_ne hqp with z | z <;> omega)
    · have x11 : ∀ j, j ≠ 1 * 148 + 147 → setJ 1 (889 + k) 147 v J1 11 j = J1 11 j ∧ setJ 1 (889 + k) 147 v J1 12 j = J1 12 j := fun j hj => by
        unfold setJ
        rw [j_up_cell _ (by decide), j_up_own, if_neg hj, j_up_cell _ (by decide), j_up_cell _ (by decide), j_up_own, if_neg hj, j_up_cell _ (by decide), j_up_cell _ (by decide), j_up_cell _ (by decide)]
        exact ⟨rfl, rfl⟩
      exact x11 _ (by rcases Nat.lt_or_gt_of_ne hqp with z | z <;> omega)
theorem write_1 {n : Nat} (h : perRel 1 13 I J) (h0 : I 0 11 = J 0 18) (hc : rCst J) (hn2 : n ≤ 1200) (hin : I 0 7 = nI n) (hjn : J 0 20 = nI n) (ht : ∀ i, i < n → I 26 i = J 17 i) : jAsk (jv (d + 1) 174 0 [some (.ref 0), some (.int 1), none, none, none, none] [] (shC, I, L, pX pa pb pu pw)) (jv (e + 1) 228 0 [some (.ref 0), some (.int 1), none, none, none, none] [] (shR, J, L', pR)) (shC, I, L, pX pa pb pu pw) (shR, J, L', pR) ∨ jW2 (jv (d + 1) 174 0 [some (.ref 0), some (.int 1), none, none, none, none] [] (shC, I, L, pX pa pb pu pw)) (jv (e + 1) 228 0 [some (.ref 0), some (.int 1), none, none, none, none] [] (shR, J, L', pR)) (fun v S w T => ∃ I2 J2, v = some (.int (nI n)) ∧ w = some (.int (nI n)) ∧ S = (shC, I2, L, pX pa pb pu pw) ∧ T = (shR, J2, L', pR) ∧ perRel 1 13 I2 J2 ∧ J2 9 1 = 1 ∧ (∀ f, I2 0 f = if f = 7 then 0 else I 0 f) ∧ (∀ f, J2 0 f = if f = 20 then 0 else J 0 f) ∧ (∀ c, c ≠ 0 → c ≠ 14 → c ≠ 15 → c ≠ 17 → I2 c = I c) ∧ (∀ c, c ≠ 0 → c < 9 ∨ 14 < c → J2 c = J c) ∧ (∀ q b', q < 3 → q ≠ 1 → perRel q b' I J → 0 < b' → (b' + 5 ≤ 13 ∨ 13 + 5 ≤ b') → perRel q b' I2 J2)) := by
  obtain ⟨q1, q2, q3⟩ := id h
  by_cases hd : I 0 11 = 0
  · have hd' : J 0 18 = 0 := h0 ▸ hd
    by_cases hb : I 13 0 = 0
    · left
      have hb' : J 9 1 = 0 := q1 ▸ hb
      refine ⟨.int (-2), ?_, ?_⟩
      · simp (decide := true) only [B174_0_p1, g_per_c, perv, B174_4_p1, hd, hb, jin_13, ↓reduceIte, Option.toList_some, Option.toList_none, List.cons_append, List.nil_append, List.append_nil]
      · simp (decide := true) only [B228_0, g_per_r, perv, B228_4, hd', hb', cl_1, jin_13, ↓reduceIte, Option.toList_some, Option.toList_none, List.cons_append, List.nil_append, List.append_nil]
    · right
      have hb' : ¬ J 9 1 = 0 := q1 ▸ hb
      have h9 := i01_ne q2 hb'
      have x1 : z_3.getD (12 : Int32).toNatClampNeg 0 = nI 888 := by decide +kernel
      have x2 : z_2.getD (12 : Int32).toNatClampNeg 0 = nI 147 := by decide +kernel
      have x3 : J 4 (12 : Int32).toNatClampNeg = nI 888 := hc.2.2.2.1 12 (by decide)
      have j12 : j_in 12 13 = true := by decide
      have hrw : rowN.getD 888 0 = 147 := row_text 0 (by decide)
      have gs := fun K => g_set_r1 (d := e) (L' := L') (K := K) hc (show 888 < 1189 by decide) (by rw [hrw]; decide) (nI n)
      rw [hrw] at gs
      have io : ∀ c, c ≠ 14 → c ≠ 15 → c ≠ 17 → stI13 I 888 147 (nI n) c = I c := fun c x y z => by unfold stI13; rw [j_up_cell _ z, j_up_cell _ y, j_up_cell _ x]
      have jo : ∀ c, c ≠ 11 → c ≠ 12 → c ≠ 13 → c ≠ 14 → setJ 1 888 147 (nI n) J c = J c := fun c x y z u => by unfold setJ; rw [j_up_cell _ y, j_up_cell _ x, j_up_cell _ u, j_up_cell _ z]
      have ec : jv (d + 1) 174 0 [some (.ref 0), some (.int 1), none, none, none, none] [] (shC, I, L, pX pa pb pu pw) = jv (d + 1) 174 70 [some (.ref 0), some (.int 1), some (.int (nI n)), some (.int (nI 147)), some (.int (nI 888)), some (.int (nI 0))] [] (shC, stI13 I 888 147 (nI n), L, pX pa pb pu pw) := by
        simp (decide := true) only [B174_0_p1, g_per_c, perv, B174_4_p1, hd, hb, jin_13, j12, x1, x2, hin, g_set_13 (show 888 < 1189 by decide) (show 147 < 148 by decide), B174_67_p1, ↓reduceIte, Option.toList_some, Option.toList_none, List.cons_append, List.nil_append, List.append_nil]
        rfl
      have er : jv (e + 1) 228 0 [some (.ref 0), some (.int 1), none, none, none, none] [] (shR, J, L', pR) = jv (e + 1) 228 51 [some (.ref 0), some (.int 1), some (.int (nI 888)), some (.int (nI 0)), none, none] [] (shR, setJ 1 888 147 (nI n) J, L', pR) := by
        simp (decide := true) only [B228_0, g_per_r, perv, B228_4, hd', hb', cl_1, jin_13, j12, x3, hjn, gs, B228_49, ↓reduceIte, Option.toList_some, Option.toList_none, List.cons_append, List.nil_append, List.append_nil]
        rfl
      rw [ec, er]
      refine wlp_1 (I := I) (J := J) hn2 hc 300 0 rfl _ _ none none (wri_1 h h9 (by decide) (by decide) (okV_888 hn2)) (by rw [jo 9 (by decide) (by decide) (by decide) (by decide)]; exact h9) (io 0 (by decide) (by decide) (by decide)) (io 26 (by decide) (by decide) (by decide)) hin (fun c hc2 => jo c (by omega) (by omega) (by omega) (by omega)) hjn ht io (fun q b' hq hqp hr hb => hr.eq (fun c h1 h2 => io c (by omega) (by omega) (by omega)) (by rw [jo 9 (by decide) (by decide) (by decide) (by decide)]) (by rw [jo 10 (by decide) (by decide) (by decide) (by decide)]) (fun i hi => ?_) (fun r hr2 => ?_))
      · have x13 : ∀ j, j ≠ 1 * 1189 + 888 → setJ 1 888 147 (nI n) J 13 j = J 13 j ∧ setJ 1 888 147 (nI n) J 14 j = J 14 j := fun j hj => by
          unfold setJ
          rw [j_up_cell _ (by decide), j_up_cell _ (by decide), j_up_cell _ (by decide), j_up_own, if_neg hj, j_up_cell _ (by decide), j_up_cell _ (by decide), j_up_own, if_neg hj, j_up_cell _ (by decide)]
          exact ⟨rfl, rfl⟩
        exact x13 _ (by rcases Nat.lt_or_gt_of_ne hqp with z | z <;> omega)
      · have x11 : ∀ j, j ≠ 1 * 148 + 147 → setJ 1 888 147 (nI n) J 11 j = J 11 j ∧ setJ 1 888 147 (nI n) J 12 j = J 12 j := fun j hj => by
          unfold setJ
          rw [j_up_cell _ (by decide), j_up_own, if_neg hj, j_up_cell _ (by decide), j_up_cell _ (by decide), j_up_own, if_neg hj, j_up_cell _ (by decide), j_up_cell _ (by decide), j_up_cell _ (by decide)]
          exact ⟨rfl, rfl⟩
        exact x11 _ (by rcases Nat.lt_or_gt_of_ne hqp with z | z <;> omega)
  · left
    have hd' : ¬ J 0 18 = 0 := h0 ▸ hd
    refine ⟨.int (-3), ?_, ?_⟩
    · simp (decide := true) only [B174_0_p1, g_per_c, perv, B174_4_p1, hd, ↓reduceIte, Option.toList_some, Option.toList_none, List.cons_append, List.nil_append, List.append_nil]
    · simp (decide := true) only [B228_0, g_per_r, perv, B228_4, hd', ↓reduceIte, Option.toList_some, Option.toList_none, List.cons_append, List.nil_append, List.append_nil]
/-- the words of the tape, from k on -/
theorem wlp_2 {n : Nat} (hn2 : n ≤ 1200) (hc0 : rCst J) : ∀ m k, k + m = 300 → ∀ (I1 J1 : Nat → Nat → Int32) (o4 o5 : Option Value), perRel 2 18 I1 J1 → J1 9 2 = 1 → I1 0 = I 0 → I1 26 = I 26 → I 0 7 = nI n → (∀ c, c < 9 ∨ 14 < c → J1 c = J c) → J 0 20 = nI n → (∀ i, i < n → I 26 i = J 17 i) → (∀ c, c ≠ 19 → c ≠ 20 → c ≠ 22 → I1 c = I c) → (∀ q b', q < 3 → q ≠ 2 → perRel q b' I J → (b' + 5 ≤ 18 ∨ 18 + 5 ≤ b') → perRel q b' I1 J1) → jW2 (jv (d + 1) 174 70 [some (.ref 0), some (.int 2), some (.int (nI n)), some (.int (nI 147)), some (.int (nI 888)), some (.int (nI k))] [] (shC, I1, L, pX pa pb pu pw)) (jv (e + 1) 228 51 [some (.ref 0), some (.int 2), some (.int (nI 888)), some (.int (nI k)), o4, o5] [] (shR, J1, L', pR)) (fun v S w T => ∃ I2 J2, v = some (.int (nI n)) ∧ w = some (.int (nI n)) ∧ S = (shC, I2, L, pX pa pb pu pw) ∧ T = (shR, J2, L', pR) ∧ perRel 2 18 I2 J2 ∧ J2 9 2 = 1 ∧ (∀ f, I2 0 f = if f = 7 then 0 else I 0 f) ∧ (∀ f, J2 0 f = if f = 20 then 0 else J 0 f) ∧ (∀ c, c ≠ 0 → c ≠ 19 → c ≠ 20 → c ≠ 22 → I2 c = I c) ∧ (∀ c, c ≠ 0 → c < 9 ∨ 14 < c → J2 c = J c) ∧ (∀ q b', q < 3 → q ≠ 2 → perRel q b' I J → 0 < b' → (b' + 5 ≤ 18 ∨ 18 + 5 ≤ b') → perRel q b' I2 J2)) := by
  intro m
  induction m with
  | zero =>
    intro k hk I1 J1 o4 o5 hp h9 hi0 hi26 hin hj hjn ht hfr hoth
    obtain rfl : k = 300 := by omega
    have j0 : J1 0 = J 0 := hj 0 (Or.inl (by decide))
    rw [B174_70_p2, if_neg (by decide), B228_51, if_neg (by decide)]
    have e1 : J1 0 20 = nI n := by rw [j0]; exact hjn
    rw [e1]
    refine jW2_some ⟨j_up I1 0 7 0, j_up J1 0 20 0, rfl, rfl, rfl, rfl, hp.eq (fun c h1 h2 => j_up_cell _ (by omega) _ _) (by rw [j_up_cell _ (by decide)]) (by rw [j_up_cell _ (by decide)]) (fun q hq => by rw [j_up_cell _ (by decide), j_up_cell _ (by decide)]; exact ⟨rfl, rfl⟩) (fun r hr => by rw [j_up_cell _ (by decide), j_up_cell _ (by decide)]; exact ⟨rfl, rfl⟩), by rw [j_up_cell _ (by decide)]; exact h9, fun f => by rw [j_up_own, hi0], fun f => by rw [j_up_own, j0], fun c x y z w => by rw [j_up_cell _ x, hfr c y z w], fun c x y => by rw [j_up_cell _ x, hj c y], fun q b' hq hqp hr hb0 hb => ?_⟩
    exact (hoth q b' hq hqp hr hb).eq (fun c h1 h2 => j_up_cell _ (by omega) _ _) (by rw [j_up_cell _ (by decide)]) (by rw [j_up_cell _ (by decide)]) (fun q hq => by rw [j_up_cell _ (by decide), j_up_cell _ (by decide)]; exact ⟨rfl, rfl⟩) (fun r hr => by rw [j_up_cell _ (by decide), j_up_cell _ (by decide)]; exact ⟨rfl, rfl⟩)
  | succ m ih =>
    intro k hk I1 J1 o4 o5 hp h9 hi0 hi26 hin hj hjn ht hfr hoth
    have hk3 : k < 300 := by omega
    have hc : rCst J1 := rCst_eq hc0 (fun c hc => hj c (Or.inl (by omega)))
    have e1 : J1 0 20 = nI n := by rw [hj 0 (Or.inl (by decide))]; exact hjn
    have e2 : I1 0 7 = nI n := by rw [hi0]; exact hin
    have w1 : tw (I1 26) n (4 * k) 4 = tw (J1 17) n (4 * k) 4 := tw_eq (fun i hi => by rw [hi26, hj 17 (Or.inr (by decide))]; exact ht i hi) _ _
    have a4 : (4 : Int32) * nI k = nI (4 * k) := nI_mul 4 k
    have a9 : nI 888 + 1 + nI k = nI (889 + k) := by rw [nI_1, nI_add]
    have hrw : rowN.getD (889 + k) 0 = 147 := by rw [show 889 + k = 888 + (k + 1) by omega]; exact row_text (k + 1) (by omega)
    have gs := fun K => g_set_r2 (d := e) (L' := L') (K := K) hc (show 889 + k < 1189 by omega) (by rw [hrw]; decide) (tw (J1 17) n (4 * k) 4)
    rw [hrw] at gs
    rw [B174_70_p2, if_pos (show nI k < (300 : Int32) from nI_lt hk3 (by decide)), if_pos jin_23, a4, g_tint e2 hn2 (by omega)]
    dsimp only [Option.toList_some, List.cons_append, List.nil_append]
    rw [B174_100_p2, a9, g_set_18 (show 889 + k < 1189 by omega) (show 147 < 148 by decide)]
    dsimp only [Option.toList_none, List.nil_append]
    rw [B174_103_p2, nI_1 k, B228_51, if_pos (show nI k < (300 : Int32) from nI_lt hk3 (by decide)), tint_r e1 hn2 hk3, B228_64, if_neg (by decide), a9, gs]
    dsimp only [Option.toList_none, List.nil_append]
    rw [B228_128, nI_1 k, w1]
    generalize tw (J1 17) n (4 * k) 4 = v
    have io : ∀ c, c ≠ 19 → c ≠ 20 → c ≠ 22 → stI18 I1 (889 + k) 147 v c = I1 c := fun c x y z => by unfold stI18; rw [j_up_cell _ z, j_up_cell _ y, j_up_cell _ x]
    have jo : ∀ c, c ≠ 11 → c ≠ 12 → c ≠ 13 → c ≠ 14 → setJ 2 (889 + k) 147 v J1 c = J1 c := fun c x y z u => by unfold setJ; rw [j_up_cell _ y, j_up_cell _ x, j_up_cell _ u, j_up_cell _ z]
    refine ih (k + 1) (by omega) _ _ _ _ (wri_2 hp h9 (by omega) (by decide) (okV_text (by omega) v)) (by rw [jo 9 (by decide) (by decide) (by decide) (by decide)]; exact h9) (by rw [io 0 (by decide) (by decide) (by decide)]; exact hi0) (by rw [io 26 (by decide) (by decide) (by decide)]; exact hi26) hin (fun c hc2 => by rw [jo c (by omega) (by omega) (by omega) (by omega)]; exact hj c hc2) hjn ht (fun c x y z => by rw [io c x y z]; exact hfr c x y z) (fun q b' hq hqp hr hb => (hoth q b' hq hqp hr hb).eq (fun c h1 h2 => io c (by omega) (by omega) (by omega)) (by rw [jo 9 (by decide) (by decide) (by decide) (by decide)]) (by rw [jo 10 (by decide) (by decide) (by decide) (by decide)]) (fun i hi => ?_) (fun r hr2 => ?_))
    · have x13 : ∀ j, j ≠ 2 * 1189 + (889 + k) → setJ 2 (889 + k) 147 v J1 13 j = J1 13 j ∧ setJ 2 (889 + k) 147 v J1 14 j = J1 14 j := fun j hj => by
        unfold setJ
        rw [j_up_cell _ (by decide), j_up_cell _ (by decide), j_up_cell _ (by decide), j_up_own, if_neg hj, j_up_cell _ (by decide), j_up_cell _ (by decide), j_up_own, if_neg hj, j_up_cell _ (by decide)]
        exact ⟨rfl, rfl⟩
      exact x13 _ (by rcases Nat.lt_or_gt_of_ne hqp with z | z <;> omega)
    · have x11 : ∀ j, j ≠ 2 * 148 + 147 → setJ 2 (889 + k) 147 v J1 11 j = J1 11 j ∧ setJ 2 (889 + k) 147 v J1 12 j = J1 12 j := fun j hj => by
        unfold setJ
        rw [j_up_cell _ (by decide), j_up_own, if_neg hj, j_up_cell _ (by decide), j_up_cell _ (by decide), j_up_own, if_neg hj, j_up_cell _ (by decide), j_up_cell _ (by decide), j_up_cell _ (by decide)]
        exact ⟨rfl, rfl⟩
      exact x11 _ (by rcases Nat.lt_or_gt_of_ne hqp with z | z <;> omega)
theorem write_2 {n : Nat} (h : perRel 2 18 I J) (h0 : I 0 11 = J 0 18) (hc : rCst J) (hn2 : n ≤ 1200) (hin : I 0 7 = nI n) (hjn : J 0 20 = nI n) (ht : ∀ i, i < n → I 26 i = J 17 i) : jAsk (jv (d + 1) 174 0 [some (.ref 0), some (.int 2), none, none, none, none] [] (shC, I, L, pX pa pb pu pw)) (jv (e + 1) 228 0 [some (.ref 0), some (.int 2), none, none, none, none] [] (shR, J, L', pR)) (shC, I, L, pX pa pb pu pw) (shR, J, L', pR) ∨ jW2 (jv (d + 1) 174 0 [some (.ref 0), some (.int 2), none, none, none, none] [] (shC, I, L, pX pa pb pu pw)) (jv (e + 1) 228 0 [some (.ref 0), some (.int 2), none, none, none, none] [] (shR, J, L', pR)) (fun v S w T => ∃ I2 J2, v = some (.int (nI n)) ∧ w = some (.int (nI n)) ∧ S = (shC, I2, L, pX pa pb pu pw) ∧ T = (shR, J2, L', pR) ∧ perRel 2 18 I2 J2 ∧ J2 9 2 = 1 ∧ (∀ f, I2 0 f = if f = 7 then 0 else I 0 f) ∧ (∀ f, J2 0 f = if f = 20 then 0 else J 0 f) ∧ (∀ c, c ≠ 0 → c ≠ 19 → c ≠ 20 → c ≠ 22 → I2 c = I c) ∧ (∀ c, c ≠ 0 → c < 9 ∨ 14 < c → J2 c = J c) ∧ (∀ q b', q < 3 → q ≠ 2 → perRel q b' I J → 0 < b' → (b' + 5 ≤ 18 ∨ 18 + 5 ≤ b') → perRel q b' I2 J2)) := by
  obtain ⟨q1, q2, q3⟩ := id h
  by_cases hd : I 0 11 = 0
  · have hd' : J 0 18 = 0 := h0 ▸ hd
    by_cases hb : I 18 0 = 0
    · left
      have hb' : J 9 2 = 0 := q1 ▸ hb
      refine ⟨.int (-2), ?_, ?_⟩
      · simp (decide := true) only [B174_0_p2, g_per_c, perv, B174_4_p2, hd, hb, jin_23, ↓reduceIte, Option.toList_some, Option.toList_none, List.cons_append, List.nil_append, List.append_nil]
      · simp (decide := true) only [B228_0, g_per_r, perv, B228_4, hd', hb', cl_2, jin_23, ↓reduceIte, Option.toList_some, Option.toList_none, List.cons_append, List.nil_append, List.append_nil]
    · right
      have hb' : ¬ J 9 2 = 0 := q1 ▸ hb
      have h9 := i01_ne q2 hb'
      have x1 : z_3.getD (12 : Int32).toNatClampNeg 0 = nI 888 := by decide +kernel
      have x2 : z_2.getD (12 : Int32).toNatClampNeg 0 = nI 147 := by decide +kernel
      have x3 : J 4 (12 : Int32).toNatClampNeg = nI 888 := hc.2.2.2.1 12 (by decide)
      have j12 : j_in 12 13 = true := by decide
      have hrw : rowN.getD 888 0 = 147 := row_text 0 (by decide)
      have gs := fun K => g_set_r2 (d := e) (L' := L') (K := K) hc (show 888 < 1189 by decide) (by rw [hrw]; decide) (nI n)
      rw [hrw] at gs
      have io : ∀ c, c ≠ 19 → c ≠ 20 → c ≠ 22 → stI18 I 888 147 (nI n) c = I c := fun c x y z => by unfold stI18; rw [j_up_cell _ z, j_up_cell _ y, j_up_cell _ x]
      have jo : ∀ c, c ≠ 11 → c ≠ 12 → c ≠ 13 → c ≠ 14 → setJ 2 888 147 (nI n) J c = J c := fun c x y z u => by unfold setJ; rw [j_up_cell _ y, j_up_cell _ x, j_up_cell _ u, j_up_cell _ z]
      have ec : jv (d + 1) 174 0 [some (.ref 0), some (.int 2), none, none, none, none] [] (shC, I, L, pX pa pb pu pw) = jv (d + 1) 174 70 [some (.ref 0), some (.int 2), some (.int (nI n)), some (.int (nI 147)), some (.int (nI 888)), some (.int (nI 0))] [] (shC, stI18 I 888 147 (nI n), L, pX pa pb pu pw) := by
        simp (decide := true) only [B174_0_p2, g_per_c, perv, B174_4_p2, hd, hb, jin_23, j12, x1, x2, hin, g_set_18 (show 888 < 1189 by decide) (show 147 < 148 by decide), B174_67_p2, ↓reduceIte, Option.toList_some, Option.toList_none, List.cons_append, List.nil_append, List.append_nil]
        rfl
      have er : jv (e + 1) 228 0 [some (.ref 0), some (.int 2), none, none, none, none] [] (shR, J, L', pR) = jv (e + 1) 228 51 [some (.ref 0), some (.int 2), some (.int (nI 888)), some (.int (nI 0)), none, none] [] (shR, setJ 2 888 147 (nI n) J, L', pR) := by
        simp (decide := true) only [B228_0, g_per_r, perv, B228_4, hd', hb', cl_2, jin_23, j12, x3, hjn, gs, B228_49, ↓reduceIte, Option.toList_some, Option.toList_none, List.cons_append, List.nil_append, List.append_nil]
        rfl
      rw [ec, er]
      refine wlp_2 (I := I) (J := J) hn2 hc 300 0 rfl _ _ none none (wri_2 h h9 (by decide) (by decide) (okV_888 hn2)) (by rw [jo 9 (by decide) (by decide) (by decide) (by decide)]; exact h9) (io 0 (by decide) (by decide) (by decide)) (io 26 (by decide) (by decide) (by decide)) hin (fun c hc2 => jo c (by omega) (by omega) (by omega) (by omega)) hjn ht io (fun q b' hq hqp hr hb => hr.eq (fun c h1 h2 => io c (by omega) (by omega) (by omega)) (by rw [jo 9 (by decide) (by decide) (by decide) (by decide)]) (by rw [jo 10 (by decide) (by decide) (by decide) (by decide)]) (fun i hi => ?_) (fun r hr2 => ?_))
      · have x13 : ∀ j, j ≠ 2 * 1189 + 888 → setJ 2 888 147 (nI n) J 13 j = J 13 j ∧ setJ 2 888 147 (nI n) J 14 j = J 14 j := fun j hj => by
          unfold setJ
          rw [j_up_cell _ (by decide), j_up_cell _ (by decide), j_up_cell _ (by decide), j_up_own, if_neg hj, j_up_cell _ (by decide), j_up_cell _ (by decide), j_up_own, if_neg hj, j_up_cell _ (by decide)]
          exact ⟨rfl, rfl⟩
        exact x13 _ (by rcases Nat.lt_or_gt_of_ne hqp with z | z <;> omega)
      · have x11 : ∀ j, j ≠ 2 * 148 + 147 → setJ 2 888 147 (nI n) J 11 j = J 11 j ∧ setJ 2 888 147 (nI n) J 12 j = J 12 j := fun j hj => by
          unfold setJ
          rw [j_up_cell _ (by decide), j_up_own, if_neg hj, j_up_cell _ (by decide), j_up_cell _ (by decide), j_up_own, if_neg hj, j_up_cell _ (by decide), j_up_cell _ (by decide), j_up_cell _ (by decide)]
          exact ⟨rfl, rfl⟩
        exact x11 _ (by rcases Nat.lt_or_gt_of_ne hqp with z | z <;> omega)
  · left
    have hd' : ¬ J 0 18 = 0 := h0 ▸ hd
    refine ⟨.int (-3), ?_, ?_⟩
    · simp (decide := true) only [B174_0_p2, g_per_c, perv, B174_4_p2, hd, ↓reduceIte, Option.toList_some, Option.toList_none, List.cons_append, List.nil_append, List.append_nil]
    · simp (decide := true) only [B228_0, g_per_r, perv, B228_4, hd', ↓reduceIte, Option.toList_some, Option.toList_none, List.cons_append, List.nil_append, List.append_nil]
end WRI
