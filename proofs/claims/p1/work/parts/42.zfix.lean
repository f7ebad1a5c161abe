/-! THE FIRST CALL: the sea on a new ship, and no plates, by equations where the kernel is too slow -/
section FIX
variable {d : Nat} {K : Option Value → jS → jO}
theorem m0f_hull {s f : Nat} (hs : s < 16) (hf : f < 9) : m0f (8 + s * 9 + f) = 0 := by
  unfold m0f
  rw [if_neg (by omega), if_neg (by omega)]
theorem m0f_sps {p f : Nat} (hp : p < 16) (hf : f < 8) : m0f (152 + p * 8 + f) = 0 := by
  unfold m0f
  rw [if_neg (by omega), if_neg (by omega)]
theorem i3_2 (q : Nat) : i3f 2 q = m0f q := rfl
theorem g_bot_0 {I : Nat → Nat → Int32} (hI : I 2 = m0f) {L : Nat → Nat → Int64} {pa pb pu pw : Option Nat} {s k : Nat} (hs : s < 16) (hk : k < 16) : jgo jTT jMM (d + 2) 56 [.ref 1, .int (nI s), .int (nI k)] (shC, I, L, pX pa pb pu pw) K = K (some (.int 0)) (shC, I, L, pX pa pb pu pw) := by
  refine jgo_some rfl ?_
  show jv (d + 1) 56 0 [some (.ref 1), some (.int (nI s)), some (.int (nI k))] [] (shC, I, L, pX pa pb pu pw) = _
  have g : ∀ f, f < 9 → ∀ K, jgo jTT jMM (d + 1) 51 [.ref 1, .int 1, .int (nI s), .int (nI f)] (shC, I, L, pX pa pb pu pw) K = K (some (.int 0)) (shC, I, L, pX pa pb pu pw) := fun f hf K => by
    have e := of_1 (d := d) (I := I) (L := L) (pa := pa) (pb := pb) (pu := pu) (pw := pw) (a := 1) (b := s) (c := f) (by decide) hs hf none
    rw [hI, show m0f (fpN.getD 1 0 + s * fieldsN.getD 1 0 + f) = 0 from m0f_hull hs hf] at e
    exact jgo_some rfl e
  rw [B56_0_o1]
  by_cases h8 : k < 8
  · rw [if_pos (show nI k < (8 : Int32) from nI_lt h8 (by decide)), show (7 : Int32) - nI k = nI (7 - k) from nI_sub (a := 7) (by omega), B56_20_o1, g (7 - k) (by omega)]
    dsimp only [Option.toList_some, List.cons_append, List.nil_append]
    rw [B56_23_o1]
  · rw [if_neg (show ¬ nI k < (8 : Int32) from nI_nlt (b := 8) (by omega) (by omega)), show nI k - (8 : Int32) = nI (k - 8) from nI_sub (b := 8) (by omega), B56_20_o1, g (k - 8) (by omega)]
    dsimp only [Option.toList_some, List.cons_append, List.nil_append]
    rw [B56_23_o1]
theorem g_deck_0 {I : Nat → Nat → Int32} (hI : I 2 = m0f) {L : Nat → Nat → Int64} {pa pb pu pw : Option Nat} {s : Nat} (hs : s < 16) : jgo jTT jMM (d + 2) 57 [.ref 1, .int (nI s)] (shC, I, L, pX pa pb pu pw) K = K (some (.int 0)) (shC, I, L, pX pa pb pu pw) := by
  refine jgo_some rfl ?_
  show jv (d + 1) 57 0 [some (.ref 1), some (.int (nI s))] [] (shC, I, L, pX pa pb pu pw) = _
  have g : ∀ K, jgo jTT jMM (d + 1) 51 [.ref 1, .int 1, .int (nI s), .int 8] (shC, I, L, pX pa pb pu pw) K = K (some (.int 0)) (shC, I, L, pX pa pb pu pw) := fun K => by
    have e := of_1 (d := d) (I := I) (L := L) (pa := pa) (pb := pb) (pu := pu) (pw := pw) (a := 1) (b := s) (c := 8) (by decide) hs (by decide) none
    rw [hI, show m0f (fpN.getD 1 0 + s * fieldsN.getD 1 0 + 8) = 0 from m0f_hull hs (by decide)] at e
    exact jgo_some rfl e
  rw [B57_0_o1, g]
  dsimp only [Option.toList_some, List.cons_append, List.nil_append]
  rw [B57_8_o1]
def i4f : Nat → Nat → Int32 := j_up (j_up (j_up (j_up i3f 76 0 15) 78 0 15) 80 0 200000) 81 0 16
theorem bld_in {s : Nat} (hs : s < 16) : jv (d + 2) 33 10 [some (.ref 72), some (.ref 1), some (.int (nI s)), some (.int 0)] [] SC0 = jv (d + 2) 33 10 [some (.ref 72), some (.ref 1), some (.int (nI s)), some (.int (nI 16))] [] SC0 := by
  refine j_run (fun k => jv (d + 2) 33 10 [some (.ref 72), some (.ref 1), some (.int (nI s)), some (.int (nI k))] [] SC0) 16 (fun k hk => ?_)
  show jv (d + 2) 33 10 _ _ _ = jv (d + 2) 33 10 _ _ _
  have a1 : (16 : Int32) * nI s + nI k = nI (16 * s + k) := by rw [show (16 : Int32) = nI 16 from rfl, nI_mul, nI_add]
  have jx : j_in (nI (16 * s + k)) 256 = true := j_in_nI (by omega) (by decide)
  have z1 : j_up i3f 73 (16 * s + k) 0 = i3f := j_up_same _ _ _ _ rfl
  have z2 : j_up i3f 74 (16 * s + k) 0 = i3f := j_up_same _ _ _ _ rfl
  unfold SC0
  rw [B33_10, if_pos (show nI k < (16 : Int32) from nI_lt hk (by decide)), g_bot_0 rfl hs hk]
  dsimp only [Option.toList_some, List.cons_append, List.nil_append]
  rw [B33_34, a1, if_pos jx, nI_clamp (n := 16 * s + k) (by omega), show (64 : Int32) * 0 = 0 from rfl, z1, g_deck_0 rfl hs]
  dsimp only [Option.toList_some, List.cons_append, List.nil_append]
  rw [B33_53, if_pos jx, nI_clamp (n := 16 * s + k) (by omega), show (64 : Int32) * 0 = 0 from rfl, z2, nI_1]
theorem bld_out : ∀ m s, s + m = 16 → ∀ o3 : Option Value, ∃ o : Option Value, jv (d + 2) 33 2 [some (.ref 72), some (.ref 1), some (.int (nI s)), o3] [] SC0 = jv (d + 2) 33 2 [some (.ref 72), some (.ref 1), some (.int (nI 16)), o] [] SC0 := by
  intro m
  induction m with
  | zero =>
    intro s hs o3
    obtain rfl : s = 16 := by omega
    exact ⟨o3, rfl⟩
  | succ m ih =>
    intro s hs o3
    obtain ⟨o, ho⟩ := ih (s + 1) (by omega) (some (.int (nI 16)))
    refine ⟨o, Eq.trans ?_ ho⟩
    have e1 : jv (d + 2) 33 2 [some (.ref 72), some (.ref 1), some (.int (nI s)), o3] [] SC0 = jv (d + 2) 33 10 [some (.ref 72), some (.ref 1), some (.int (nI s)), some (.int 0)] [] SC0 := by
      unfold SC0
      rw [B33_2, if_pos (show nI s < (16 : Int32) from nI_lt (b := 16) (by omega) (by decide))]
    rw [e1, bld_in (by omega)]
    unfold SC0
    rw [B33_10, if_neg (by decide), nI_1]
theorem i4_z {p : Nat} : i4f 75 (p + 1) = 0 ∧ i4f 76 (p + 1) = 0 ∧ i4f 77 (p + 1) = 0 ∧ i4f 78 (p + 1) = 0 ∧ i4f 79 (p + 1) = 0 ∧ i4f 80 (p + 1) = 0 := ⟨rfl, rfl, rfl, rfl, rfl, rfl⟩
theorem i4_2 : i4f 2 = m0f := rfl
theorem bld_sp {p : Nat} (hp : p < 16) (o3 : Option Value) : jv (d + 2) 33 101 [some (.ref 72), some (.ref 1), some (.int (nI p)), o3] [] (shC, i4f, l3f, pX (some 38) (some 49) none none) = jv (d + 2) 33 101 [some (.ref 72), some (.ref 1), some (.int (nI (p + 1))), o3] [] (shC, i4f, l3f, pX (some 38) (some 49) none none) := by
  have g : ∀ f, f < 8 → ∀ K, jgo jTT jMM (d + 2) 51 [.ref 1, .int 2, .int (nI p), .int (nI f)] (shC, i4f, l3f, pX (some 38) (some 49) none none) K = K (some (.int 0)) (shC, i4f, l3f, pX (some 38) (some 49) none none) := fun f hf K => by
    have e := of_1 (d := d + 1) (I := i4f) (L := l3f) (pa := some 38) (pb := some 49) (pu := none) (pw := none) (a := 2) (b := p) (c := f) (by decide) hp hf none
    rw [i4_2, show m0f (fpN.getD 2 0 + p * fieldsN.getD 2 0 + f) = 0 from m0f_sps hp hf] at e
    exact jgo_some rfl e
  have jx : j_in (nI (p + 1)) 17 = true := j_in_nI (by omega) (by decide)
  have k1 : (nI (p + 1)).toNatClampNeg = p + 1 := nI_clamp (by omega)
  have g1 := g 1 (by decide)
  have g2 := g 2 (by decide)
  have g3 := g 3 (by decide)
  have g4 := g 4 (by decide)
  have g5 := g 5 (by decide)
  have g6 := g 6 (by decide)
  have n1 : nI 1 = (1 : Int32) := rfl
  have n2 : nI 2 = (2 : Int32) := rfl
  have n3 : nI 3 = (3 : Int32) := rfl
  have n4 : nI 4 = (4 : Int32) := rfl
  have n5 : nI 5 = (5 : Int32) := rfl
  have n6 : nI 6 = (6 : Int32) := rfl
  rw [n1] at g1
  rw [n2] at g2
  rw [n3] at g3
  rw [n4] at g4
  rw [n5] at g5
  rw [n6] at g6
  have z1 : j_up i4f 75 (p + 1) 0 = i4f := j_up_same _ _ _ _ i4_z.1
  have z2 : j_up i4f 76 (p + 1) 0 = i4f := j_up_same _ _ _ _ i4_z.2.1
  have z3 : j_up i4f 77 (p + 1) 0 = i4f := j_up_same _ _ _ _ i4_z.2.2.1
  have z4 : j_up i4f 78 (p + 1) 0 = i4f := j_up_same _ _ _ _ i4_z.2.2.2.1
  have z5 : j_up i4f 79 (p + 1) 0 = i4f := j_up_same _ _ _ _ i4_z.2.2.2.2.1
  have z6 : j_up i4f 80 (p + 1) 0 = i4f := j_up_same _ _ _ _ i4_z.2.2.2.2.2
  have z0 : (64 : Int32) * 0 = 0 := rfl
  rw [B33_101, if_pos (show nI p < (16 : Int32) from nI_lt hp (by decide)), g1, nI_1]
  dsimp only [Option.toList_some, List.cons_append, List.nil_append]
  rw [B33_121, if_pos jx, k1, z1, g2, nI_1]
  dsimp only [Option.toList_some, List.cons_append, List.nil_append]
  rw [B33_136, if_pos jx, k1, z2, g3, nI_1]
  dsimp only [Option.toList_some, List.cons_append, List.nil_append]
  rw [B33_151, if_pos jx, k1, z3, g4, nI_1]
  dsimp only [Option.toList_some, List.cons_append, List.nil_append]
  rw [B33_166, if_pos jx, k1, z4, g5, nI_1]
  dsimp only [Option.toList_some, List.cons_append, List.nil_append]
  rw [B33_183, if_pos jx, k1, z0, z5, g6, nI_1]
  dsimp only [Option.toList_some, List.cons_append, List.nil_append]
  rw [B33_202, if_pos jx, k1, z0, z6, nI_1]
theorem bld_0 : jv (d + 2) 33 0 [some (.ref 72), some (.ref 1), none, none] [] SC0 = some (none, (shC, i4f, l3f, pX (some 38) (some 49) none none)) := by
  have e0 : jv (d + 2) 33 0 [some (.ref 72), some (.ref 1), none, none] [] SC0 = jv (d + 2) 33 2 [some (.ref 72), some (.ref 1), some (.int (nI 0)), none] [] SC0 := by
    unfold SC0
    rw [B33_0]
    rfl
  obtain ⟨o, ho⟩ := bld_out (d := d) 16 0 rfl none
  have e1 : jv (d + 2) 33 2 [some (.ref 72), some (.ref 1), some (.int (nI 16)), o] [] SC0 = jv (d + 2) 33 101 [some (.ref 72), some (.ref 1), some (.int (nI 0)), o] [] (shC, i4f, l3f, pX (some 38) (some 49) none none) := by
    have jx : j_in 0 17 = true := by decide
    unfold SC0
    rw [B33_2, if_neg (by decide)]
    simp only [jx, ↓reduceIte]
    rfl
  have e2 := j_run (fun p => jv (d + 2) 33 101 [some (.ref 72), some (.ref 1), some (.int (nI p)), o] [] (shC, i4f, l3f, pX (some 38) (some 49) none none)) 16 (fun p hp => bld_sp hp o)
  rw [e0, ho, e1]
  refine Eq.trans e2 ?_
  rw [B33_101, if_neg (by decide)]
set_option maxRecDepth 100000 in
theorem T193_57 (d : Nat) (l1 t0 : Int32) (S : jS) : jv d 193 57 [some (.ref 0), some (.int l1)] [.int t0] S = some (some (.int t0), S) := (jblk_eq jTT jMM [57] d mq_193 2 _ _ _ _).trans rfl
theorem k_come : kI (jrunO 60000 1899 102 11 [some (.ref 60), some (.int 0), none, none, none, none, none] [] (shC, i4f, l3f, pX (some 38) (some 49) none none)) 1 shC = true := by decide +kernel
theorem sea_c0 : jEnds 193 [.int 0] SC0 (.int 1) := by
  obtain ⟨S', h1, h2⟩ := kI_some k_come
  have e1 : jev jTT jMM 1899 102 0 (j_ent (jMM 102).2 [.ref 60, .int 0]) [] (shC, i3f, l3f, pX (some 38) (some 49) none none) = some (some (.int 1), S') := by
    show jv 1899 102 0 [some (.ref 60), some (.int 0), none, none, none, none, none] [] (shC, i3f, l3f, pX (some 38) (some 49) none none) = _
    rw [B102_0, jgo_some (d := 1898) rfl (show jv 1898 33 0 [some (.ref 72), some (.ref 1), none, none] [] (shC, i3f, l3f, pX (some 38) (some 49) none none) = _ from bld_0 (d := 1896))]
    dsimp only [Option.toList_none, List.nil_append]
    exact jrunO_jev _ _ _ _ _ _ _ _ h1
  have z : j_up i3f 116 10 0 = i3f := j_up_same _ _ _ _ rfl
  refine ⟨S', rfl, ?_, h2⟩
  show jv 1900 193 0 [some (.ref 0), some (.int 0)] [] (shC, i3f, l3f, pX (some 38) (some 49) none none) = _
  have a0 : (0 : Int32) &&& ((0 : Int32) ^^^ (-1)) = 0 := by decide
  rw [B193_0, if_neg (by decide), if_pos (by decide), sh16, if_pos (by decide), g_kinds (d := 1894)]
  dsimp only [Option.toList_some, List.cons_append, List.nil_append]
  rw [B193_23, if_pos a0, if_pos fc_0_11, if_pos nb0, z, jgo_some (d := 1899) rfl e1]
  dsimp only [Option.toList_some, List.cons_append, List.nil_append]
  exact T193_57 1900 0 1 S'
/-! the reference -/
variable {J : Nat → Nat → Int32} {L : Nat → Nat → Int64}
theorem g_atZ (h : rCst J) {a b c : Nat} (ha : a < 13) : jgo jTT jMM (d + 1) 214 [.ref 0, .int (nI a), .int (nI b), .int (nI c)] (shR, J, L, pR) K = K (some (.int (nI (fpN.getD a 0 + b * fieldsN.getD a 0 + c)))) (shR, J, L, pR) := jgo_some rfl (at_ok h ha b c)
theorem g_botr (h : rCst J) (hJ : J 6 = m0f) {s k : Nat} (hs : s < 16) (hk : k < 16) : jgo jTT jMM (d + 2) 247 [.ref 0, .ref 6, .int (nI s), .int (nI k)] (shR, J, L, pR) K = K (some (.int 0)) (shR, J, L, pR) := by
  refine jgo_some rfl ?_
  show jv (d + 1) 247 0 [some (.ref 0), some (.ref 6), some (.int (nI s)), some (.int (nI k))] [] (shR, J, L, pR) = _
  have key : ∀ f, f < 9 → jv (d + 1) 247 21 [some (.ref 0), some (.ref 6), some (.int (nI s)), some (.int (nI k))] [.int (nI f), .int (nI s), .int (nI 1), .ref 0, .ref 6] (shR, J, L, pR) = some (some (.int 0), (shR, J, L, pR)) := fun f hf => by
    rw [B247_21_a6, g_atZ h (by decide)]
    dsimp only [Option.toList_some, List.cons_append, List.nil_append]
    rw [B247_24_a6, if_pos (j_in_nI (place_lt (a := 1) (by decide) hs hf) (by decide)), nI_clamp (by have := place_lt (a := 1) (by decide) hs hf; omega), hJ, show m0f (fpN.getD 1 0 + s * fieldsN.getD 1 0 + f) = 0 from m0f_hull hs hf]
  rw [B247_0_a6]
  by_cases h8 : k < 8
  · rw [if_pos (show nI k < (8 : Int32) from nI_lt h8 (by decide)), show (7 : Int32) - nI k = nI (7 - k) from nI_sub (a := 7) (by omega)]
    exact key (7 - k) (by omega)
  · rw [if_neg (show ¬ nI k < (8 : Int32) from nI_nlt (b := 8) (by omega) (by omega)), show nI k - (8 : Int32) = nI (k - 8) from nI_sub (b := 8) (by omega)]
    exact key (k - 8) (by omega)
theorem lay_in (h : rCst J) (hJ : J 6 = m0f) (h44 : ∀ i, i ≤ 256 → J 44 i = 0) {s : Nat} (hs : s < 16) : ∀ x : Option Value × Option Value, ∃ y : Option Value × Option Value, jv (d + 2) 301 12 [some (.ref 0), some (.int 0), some (.int (nI s)), some (.int (nI 0)), x.1, x.2, none, none, none, none, none] [] (shR, J, L, pR) = jv (d + 2) 301 12 [some (.ref 0), some (.int 0), some (.int (nI s)), some (.int (nI 16)), y.1, y.2, none, none, none, none, none] [] (shR, J, L, pR) := by
  refine j_runE (fun k (x : Option Value × Option Value) => jv (d + 2) 301 12 [some (.ref 0), some (.int 0), some (.int (nI s)), some (.int (nI k)), x.1, x.2, none, none, none, none, none] [] (shR, J, L, pR)) 16 (fun k hk x => ⟨(some (.int 0), some (.int 0)), ?_⟩)
  show jv (d + 2) 301 12 _ _ _ = jv (d + 2) 301 12 _ _ _
  have a1 : (16 : Int32) * nI s + nI k = nI (16 * s + k) := by rw [show (16 : Int32) = nI 16 from rfl, nI_mul, nI_add]
  have z1 : j_up J 44 (16 * s + k) 0 = J := j_up_same _ _ _ _ (h44 _ (by omega))
  have pl := place_lt (a := 1) (b := s) (c := 8) (by decide) hs (by decide)
  have e8 : (8 : Int32) = nI 8 := rfl
  have e1 : (1 : Int32) = nI 1 := rfl
  rw [B301_12, if_pos (show nI k < (16 : Int32) from nI_lt hk (by decide)), a1, if_pos (j_in_nI (by omega) (by decide)), nI_clamp (n := 16 * s + k) (by omega), z1, g_botr h hJ hs hk]
  dsimp only [Option.toList_some, List.cons_append, List.nil_append]
  rw [B301_42, e1, e8, g_atZ h (by decide)]
  dsimp only [Option.toList_some, List.cons_append, List.nil_append]
  rw [B301_59, if_pos (j_in_nI pl (by decide)), nI_clamp (by omega), hJ, show m0f (fpN.getD 1 0 + s * fieldsN.getD 1 0 + 8) = 0 from m0f_hull hs (by decide), show (64 : Int32) * 0 = 0 from rfl, B301_63, if_neg (by decide), nI_1]
theorem lay_out (h : rCst J) (hJ : J 6 = m0f) (h44 : ∀ i, i ≤ 256 → J 44 i = 0) : ∀ x : Option Value × Option Value × Option Value, ∃ y : Option Value × Option Value × Option Value, jv (d + 2) 301 4 [some (.ref 0), some (.int 0), some (.int (nI 0)), x.1, x.2.1, x.2.2, none, none, none, none, none] [] (shR, J, L, pR) = jv (d + 2) 301 4 [some (.ref 0), some (.int 0), some (.int (nI 16)), y.1, y.2.1, y.2.2, none, none, none, none, none] [] (shR, J, L, pR) := by
  refine j_runE (fun s (x : Option Value × Option Value × Option Value) => jv (d + 2) 301 4 [some (.ref 0), some (.int 0), some (.int (nI s)), x.1, x.2.1, x.2.2, none, none, none, none, none] [] (shR, J, L, pR)) 16 (fun s hs x => ?_)
  obtain ⟨y, hy⟩ := lay_in (d := d) (L := L) h hJ h44 hs (x.2.1, x.2.2)
  refine ⟨(some (.int (nI 16)), y.1, y.2), ?_⟩
  show jv (d + 2) 301 4 _ _ _ = jv (d + 2) 301 4 _ _ _
  rw [B301_4, if_pos (show nI s < (16 : Int32) from nI_lt hs (by decide))]
  refine Eq.trans hy ?_
  rw [B301_12, if_neg (by decide), nI_1]
theorem lay_r0 (h : rCst J) (hJ : J 6 = m0f) (h44 : ∀ i, i ≤ 256 → J 44 i = 0) : jv (d + 2) 301 0 [some (.ref 0), none, none, none, none, none, none, none, none, none, none] [] (shR, J, L, pR) = some (none, (shR, J, L, pR)) := by
  obtain ⟨y, hy⟩ := lay_out (d := d) (L := L) h hJ h44 (none, none, none)
  rw [B301_0]
  refine Eq.trans hy ?_
  have c6 : (256 : Int32).toNatClampNeg = 256 := by decide
  rw [B301_4, if_neg (by decide), if_pos (by decide), c6, j_up_same _ _ _ _ (h44 256 (by decide))]
theorem g_liq0 (h : rCst J) (hJ : J 6 = m0f) {p : Nat} (hp : p < 16) : jgo jTT jMM (d + 2) 307 [.ref 0, .int (nI p)] (shR, J, L, pR) K = K (some (.int 0)) (shR, J, L, pR) := by
  refine jgo_some rfl ?_
  show jv (d + 1) 307 0 [some (.ref 0), some (.int (nI p))] [] (shR, J, L, pR) = _
  have pl := place_lt (a := 4) (b := p) (c := 0) (by decide) hp (by decide)
  have e4 : (4 : Int32) = nI 4 := rfl
  have e0 : (0 : Int32) = nI 0 := rfl
  have z : m0f (fpN.getD 4 0 + p * fieldsN.getD 4 0 + 0) = 0 := by
    show m0f (400 + p * 2 + 0) = 0
    unfold m0f
    rw [if_neg (by omega), if_neg (by omega)]
  rw [B307_0, jgo_some (d := d) rfl (at_ok h (t := 4) (by decide) p 0)]
  dsimp only [Option.toList_some, List.cons_append, List.nil_append]
  rw [B307_11, if_pos (j_in_nI pl (by decide)), nI_clamp (by omega), hJ, z, if_neg (by decide), B307_27, B307_28, if_pos nb0]
theorem wgt_r0 (h : rCst J) (hJ : J 6 = m0f) : jv (d + 2) 309 0 [some (.ref 0), none, none, none, none] [] (shR, J, L, pR) = some (some (.long 0), (shR, J, L, pR)) := by
  rw [B309_0]
  obtain ⟨y, hy⟩ := j_runE (fun k (x : Option Value) => jv (d + 2) 309 4 [some (.ref 0), some (.long 0), none, some (.int (nI k)), x] [] (shR, J, L, pR)) 24 (fun k hk x => by
    have pl := place_lt (a := 3) (b := k) (c := 0) (by decide) hk (by decide)
    have z : m0f (fpN.getD 3 0 + k * fieldsN.getD 3 0 + 0) = 0 := by
      show m0f (280 + k * 5 + 0) = 0
      unfold m0f
      rw [if_neg (by omega), if_neg (by omega)]
    refine ⟨some (.int (nI (fpN.getD 3 0 + k * fieldsN.getD 3 0 + 0))), ?_⟩
    show jv (d + 2) 309 4 _ _ _ = jv (d + 2) 309 4 _ _ _
    rw [B309_4, if_pos (show nI k < (24 : Int32) from nI_lt hk (by decide)), jgo_some (d := d + 1) rfl (at_ok h (t := 3) (by decide) k 0)]
    dsimp only [Option.toList_some, List.cons_append, List.nil_append]
    rw [B309_17, if_pos (j_in_nI pl (by decide)), nI_clamp (by omega), hJ, z, if_neg (by decide), B309_67, nI_1]) none
  refine Eq.trans hy ?_
  rw [B309_4, if_neg (by decide)]
  have h2 := j_run (fun k => jv (d + 2) 309 75 [some (.ref 0), some (.long 0), none, some (.int (nI k)), y] [] (shR, J, L, pR)) 16 (fun k hk => by
    show jv (d + 2) 309 75 _ _ _ = jv (d + 2) 309 75 _ _ _
    rw [B309_75, if_pos (show nI k < (16 : Int32) from nI_lt hk (by decide)), g_liq0 h hJ hk]
    dsimp only [Option.toList_some, List.cons_append, List.nil_append]
    rw [B309_86, if_pos rfl, B309_123, nI_1])
  refine Eq.trans h2 ?_
  rw [B309_75, if_neg (by decide)]
def L00 : Nat → Nat → Int64 := fun _ _ => 0
theorem set_r0 (h : rCst J) (hJ : J 6 = m0f) (h44 : ∀ i, i ≤ 256 → J 44 i = 0) : jv (d + 3) 320 0 [some (.ref 0), none] [] (shR, J, L00, pR) = some (none, (shR, j_up J 0 60 1, L00, pR)) := by
  have c6 : (256 : Int32).toNatClampNeg = 256 := by decide
  have z1 : j_up L00 0 63 0 = L00 := j_up_same _ _ _ _ rfl
  have z2 : j_up L00 0 64 0 = L00 := j_up_same _ _ _ _ rfl
  rw [B320_0, jgo_some (d := d + 2) rfl (lay_r0 (d := d) h hJ h44)]
  dsimp only [Option.toList_none, List.nil_append]
  rw [B320_4, jgo_some (d := d + 2) rfl (wgt_r0 (d := d) h hJ)]
  dsimp only [Option.toList_some, List.cons_append, List.nil_append]
  rw [B320_9, z1, z2, B320_19, if_pos (by decide), c6, h44 256 (by decide), if_neg (by decide), if_neg (show ¬ lg_cmp (L00 0 63) (L00 0 64) < 0 by decide)]
theorem sea_r80 {J1 : Nat → Nat → Int32} (c1 : rCst J1) (c2 : J1 6 = m0f) (c3 : ∀ i, i ≤ 256 → J1 44 i = 0) : jv 1900 319 80 [some (.ref 0), some (.int 0), some (.int 1)] [] (shR, J1, L00, pR) = some (some (.int 1), (shR, j_up (j_up J1 0 60 1) 0 61 (j_up J1 0 60 1 0 61 + 0), L00, pR)) := by
  have e60 : j_up (j_up J1 0 60 1) 0 61 (j_up J1 0 60 1 0 61 + 0) 0 60 = 1 := by
    rw [j_up_app, if_pos rfl, if_neg (by decide), j_up_self]
  rw [B319_80, if_neg (by decide), jgo_some (d := 1899) rfl (set_r0 (d := 1896) c1 c2 c3)]
  dsimp only [Option.toList_none, List.nil_append]
  rw [B319_88, j_up_self, if_neg (by decide), B319_106, B319_107, if_pos rfl, B319_122, B319_80, if_pos rfl, e60, if_neg (by decide), B319_140, e60]
theorem sea_r0 : jEnds 319 [.int 0] SR0 (.int 1) := by
  have h1 := j_run (fun i => jv 1900 319 15 [some (.ref 0), some (.int 0), some (.int (nI i))] [] (shR, rI0, L00, pR)) 16 (fun i hi => by
    show jv 1900 319 15 _ _ _ = jv 1900 319 15 _ _ _
    have hz : ¬ (((0 : Int32) >>> (nI i &&& 31)) &&& 1) = 1 := by
      have : ∀ i, i < 16 → ¬ (((0 : Int32) >>> (nI i &&& 31)) &&& 1) = 1 := by decide +kernel
      exact this i hi
    rw [B319_15, if_pos (show nI i < (16 : Int32) from nI_lt hi (by decide)), if_neg hz, B319_47, nI_1])
  have h2 := sea_r80 (J1 := j_up (j_up (j_up rI0 0 59 1) 0 62 0) 0 61 0) (rCst_up0 (rCst_up0 (rCst_up0 rI0_cst _) _) _) rfl (fun _ _ => rfl)
  refine ⟨(shR, j_up (j_up (j_up (j_up (j_up rI0 0 59 1) 0 62 0) 0 61 0) 0 60 1) 0 61 (j_up (j_up (j_up (j_up rI0 0 59 1) 0 62 0) 0 61 0) 0 60 1 0 61 + 0), L00, pR), rfl, ?_, rfl⟩
  show jv 1900 319 0 [some (.ref 0), some (.int 0), none] [] (shR, rI0, L00, pR) = _
  rw [B319_0, if_neg (by decide), if_neg (by decide)]
  refine Eq.trans h1 ?_
  rw [B319_15, if_neg (by decide), if_pos fr_0_18, if_pos nb1]
  exact h2
theorem kz_sea : ∃ v : Int32, jEnds 193 [.int 0] SC0 (.int v) ∧ jEnds 319 [.int 0] SR0 (.int v) := ⟨1, sea_c0, sea_r0⟩
/-! nest of the class: no plate is wanted -/
set_option maxRecDepth 100000 in
theorem bc_0 (d : Nat) (S : jS) : jv d 361 0 [some (.int 0)] [] S = some (some (.int 0), S) := (jblk_eq jTT jMM [] d mq_361 43 _ _ _ _).trans rfl
variable {I : Nat → Nat → Int32} {pa pb pu pw : Option Nat}
theorem m0f_pl {p f : Nat} (hp : p < 8) (hf : f < 14) : m0f (600 + p * 14 + f) = 0 := m0f_big (by omega)
theorem g_pl0 (hI : I 2 = m0f) {p f : Nat} (hp : p < 8) (hf : f < 14) : jgo jTT jMM (d + 1) 51 [.ref 1, .int (nI 7), .int (nI p), .int (nI f)] (shC, I, L, pX pa pb pu pw) K = K (some (.int 0)) (shC, I, L, pX pa pb pu pw) := by
  have e := of_1 (d := d) (I := I) (L := L) (pa := pa) (pb := pb) (pu := pu) (pw := pw) (a := 7) (b := p) (c := f) (by decide) hp hf none
  rw [hI, show m0f (fpN.getD 7 0 + p * fieldsN.getD 7 0 + f) = 0 from m0f_pl hp hf] at e
  exact jgo_some rfl e
theorem lg_in (hI : I 2 = m0f) {p : Nat} (hp : p < 8) (l1 l2 l3 : Int32) : jv (d + 2) 114 20 [some (.ref 1), some (.int l1), some (.int l2), some (.int l3), some (.int (nI p)), some (.int 0), some (.int (nI 0))] [] (shC, I, L, pX pa pb pu pw) = jv (d + 2) 114 20 [some (.ref 1), some (.int l1), some (.int l2), some (.int l3), some (.int (nI p)), some (.int 0), some (.int (nI 12))] [] (shC, I, L, pX pa pb pu pw) := by
  refine j_run (fun i => jv (d + 2) 114 20 [some (.ref 1), some (.int l1), some (.int l2), some (.int l3), some (.int (nI p)), some (.int 0), some (.int (nI i))] [] (shC, I, L, pX pa pb pu pw)) 12 (fun i hi => ?_)
  show jv (d + 2) 114 20 _ _ _ = jv (d + 2) 114 20 _ _ _
  have e7 : (7 : Int32) = nI 7 := rfl
  rw [B114_20, if_pos (show nI i < (12 : Int32) from nI_lt hi (by decide)), e7, g_pl0 hI hp (by omega)]
  dsimp only [Option.toList_some, List.cons_append, List.nil_append]
  rw [B114_39, jgo_some (d := d + 1) rfl (bc_0 (d + 1) _)]
  dsimp only [Option.toList_some, List.cons_append, List.nil_append]
  rw [B114_42, nI_1]
  rfl
theorem lg_one (hI : I 2 = m0f) {p : Nat} (hp : p < 8) (l1 l2 l3 : Int32) (o5 o6 : Option Value) : jv (d + 2) 114 7 [some (.ref 1), some (.int l1), some (.int l2), some (.int l3), some (.int (nI p)), o5, o6] [] (shC, I, L, pX pa pb pu pw) = jv (d + 2) 114 7 [some (.ref 1), some (.int l1), some (.int l2), some (.int l3), some (.int (nI (p + 1))), some (.int 0), some (.int (nI 12))] [] (shC, I, L, pX pa pb pu pw) := by
  have e7 : (7 : Int32) = nI 7 := rfl
  have e12 : (12 : Int32) = nI 12 := rfl
  rw [B114_7, if_pos (show nI p < (8 : Int32) from nI_lt hp (by decide))]
  refine Eq.trans (lg_in hI hp l1 l2 l3) ?_
  rw [B114_20, if_neg (by decide)]
  by_cases hb : ((l1 >>> (nI p &&& 31)) &&& 1) = 0
  · rw [if_pos hb, e7, e12, g_pl0 hI hp (by decide)]
    dsimp only [Option.toList_some, List.cons_append, List.nil_append]
    rw [B114_70, if_neg (by decide), B114_85, nI_1]
  · rw [if_neg hb, B114_85, nI_1]
theorem lg_0 (hI : I 2 = m0f) (l1 : Int32) (o2 o3 o4 o5 o6 : Option Value) : jv (d + 2) 114 0 [some (.ref 1), some (.int l1), o2, o3, o4, o5, o6] [] (shC, I, L, pX pa pb pu pw) = some (some (.int (-1)), (shC, I, L, pX pa pb pu pw)) := by
  rw [B114_0]
  obtain ⟨y, hy⟩ := j_runE (fun p (x : Option Value × Option Value) => jv (d + 2) 114 7 [some (.ref 1), some (.int l1), some (.int (-1)), some (.int 0), some (.int (nI p)), x.1, x.2] [] (shC, I, L, pX pa pb pu pw)) 8 (fun p hp x => ⟨(some (.int 0), some (.int (nI 12))), lg_one hI hp l1 (-1) 0 x.1 x.2⟩) (o5, o6)
  refine Eq.trans hy ?_
  rw [B114_7, if_neg (by decide)]
theorem fl_loop (hI : I 2 = m0f) (l2 : Int32) (o5 : Option Value) : ∃ o, jv (d + 3) 113 58 [some (.ref 83), some (.ref 1), some (.int l2), some (.int 0), some (.int (nI 0)), o5] [] (shC, I, L, pX pa pb pu pw) = jv (d + 3) 113 58 [some (.ref 83), some (.ref 1), some (.int l2), some (.int 0), some (.int (nI 8)), o] [] (shC, I, L, pX pa pb pu pw) := by
  refine j_runE (fun i (x : Option Value) => jv (d + 3) 113 58 [some (.ref 83), some (.ref 1), some (.int l2), some (.int 0), some (.int (nI i)), x] [] (shC, I, L, pX pa pb pu pw)) 8 (fun i hi x => ⟨some (.int (-1)), ?_⟩) o5
  show jv (d + 3) 113 58 _ _ _ = jv (d + 3) 113 58 _ _ _
  rw [B113_58, if_pos (show nI i < (8 : Int32) from nI_lt hi (by decide)), jgo_some (d := d + 2) rfl (lg_0 hI 0 none none none none none)]
  dsimp only [Option.toList_some, List.cons_append, List.nil_append]
  rw [B113_70, if_pos (by decide), B113_98, nI_1]
theorem nest_c0 {j : Nat} (hj : j < 4) : jEnds 203 [.int (nI j)] SC0 (.int 0) := by
  have key : ∃ X Y, jv 1899 113 0 [some (.ref 83), some (.ref 1), some (.int (nI j)), none, none, none] [] (shC, i3f, l3f, pX (some 38) (some 49) none none) = some (none, (shC, X, Y, pX (some 38) (some 49) none none)) ∧ X 83 2 = 0 := by
    rw [B113_0, jgo_some (d := 1898) rfl (of_1 (d := 1898) (a := 0) (b := 0) (c := 4) (by decide) (by decide) (by decide) none)]
    dsimp only [Option.toList_some, List.cons_append, List.nil_append]
    rw [B113_13, jgo_some (d := 1898) rfl (of_1 (d := 1898) (a := 0) (b := 0) (c := 5) (by decide) (by decide) (by decide) none)]
    dsimp only [Option.toList_some, List.cons_append, List.nil_append]
    rw [B113_24, jgo_some (d := 1898) rfl (fill_long (d := 1898) (a := 89) (n := 288) rfl (by decide) 0 none none _ _ _)]
    dsimp only [Option.toList_none, List.nil_append]
    rw [B113_45, jgo_some (d := 1898) rfl (fill_byte (d := 1898) (a := 90) (n := 18432) rfl (by decide) 0 none none _ _ _)]
    dsimp only [Option.toList_none, List.nil_append]
    rw [B113_53]
    generalize hX : va_up (j_up (j_up (j_up (j_up (j_up i3f 83 5 (nI j)) 83 3 (j_up i3f 83 5 (nI j) 2 (fpN.getD 0 0 + 0 * fieldsN.getD 0 0 + 4))) 83 4 _) 83 1 0) 83 2 0) 90 _ = X
    have h2 : X 2 = m0f := by rw [← hX]; rfl
    have h83 : X 83 2 = 0 := by rw [← hX]; rfl
    obtain ⟨o, ho⟩ := fl_loop (d := 1896) (L := va_up l3f 89 (j_fillL (l3f 89) (fun _ => 0) 288)) (pa := some 38) (pb := some 49) (pu := none) (pw := none) h2 (nI j) none
    refine ⟨j_up X 83 0 1, va_up l3f 89 (j_fillL (l3f 89) (fun _ => 0) 288), Eq.trans ho ?_, by rw [j_up_app, if_pos rfl, if_neg (by decide), h83]⟩
    rw [B113_58, if_neg (by decide), if_pos nb1]
  obtain ⟨X, Y, h1, h2⟩ := key
  have z : j_up i3f 116 10 0 = i3f := j_up_same _ _ _ _ rfl
  refine ⟨(shC, X, Y, pX (some 38) (some 49) none none), rfl, ?_, rfl⟩
  show jv 1900 203 0 [some (.ref 0), some (.int (nI j))] [] (shC, i3f, l3f, pX (some 38) (some 49) none none) = _
  rw [B203_0, if_neg (nI_pos (by omega)), if_neg (show ¬ (3 : Int32) < nI j from nI_nlt (a := 3) (by omega) (by decide)), if_pos fc_0_11, if_pos nb0, z, jgo_some (d := 1899) rfl h1]
  dsimp only [Option.toList_none, List.nil_append]
  rw [B203_41, h2]
end FIX
