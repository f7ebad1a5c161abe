/-! THE FIRST CALL: the sea on a new ship, and no plates, by equations where the kernel is too slow -/
section FIX
variable {d : Nat} {K : Option Value → jS → jO}
theorem m0f_hull {s f : Nat} (hs : s < 16) (hf : f < 9) : m0f (8 + s * 9 + f) = 0 := by
  unfold m0f
  rw [if_neg (by omega), if_neg (by omega)]
theorem m0f_sps {p f : Nat} (hp : p < 16) (hf : f < 8) : m0f (152 + p * 8 + f) = 0 := by
  unfold m0f
  rw [if_neg (by omega), if_neg (by omega)]
theorem i3_2 (q : Nat) : i3f 2 q = m0f q := rfl
theorem g_bot_0 {I : Nat → Nat → Int32} (hI : I 2 = m0f) {L : Nat → Nat → Int64} {pa pb pu pw : Option Nat} {s k : Nat} (hs : s < 16) (hk : k < 16) : jgo jTT jMM (d + 2) 56 [.ref 1, .int (nI s), .int (nI k)] (shC, I, L, pX pa pb pu pw) K = K (some (.int 0)) (shC, I, L, pX pa pb pu pw) := by
  refine jgo_some rfl ?_
  show jv (d + 1) 56 0 [some (.ref 1), some (.int (nI s)), some (.int (nI k))] [] (shC, I, L, pX pa pb pu pw) = _
  have g : ∀ f, f < 9 → ∀ K, jgo jTT jMM (d + 1) 51 [.ref 1, .int 1, .int (nI s), .int (nI f)] (shC, I, L, pX pa pb pu pw) K = K (some (.int 0)) (shC, I, L, pX pa pb pu pw) := fun f hf K => by
    have e := of_1 (d := d) (I := I) (L := L) (pa := pa) (pb := pb) (pu := pu) (pw := pw) (a := 1) (b := s) (c := f) (by decide) hs hf none
    rw [hI, show m0f (fpN.getD 1 0 + s * fieldsN.getD 1 0 + f) = 0 from m0f_hull hs hf] at e
    exact jgo_some rfl e
  rw [B56_0_o1]
  by_cases h8 : k < 8
  · rw [if_pos (show nI k < (8 : Int32) from nI_lt h8 (by decide)), show (7 : Int32) - nI k = nI (7 - k) from nI_sub (a := 7) (by omega), B56_20_o1, g (7 - k) (by omega)]
    dsimp only [Option.toList_some, List.cons_append, List.nil_append]
    rw [B56_23_o1]
  · rw [if_neg (show ¬ nI k < (8 : Int32) from nI_nlt (b := 8) (by omega) (by omega)), show nI k - (8 : Int32) = nI (k - 8) from nI_sub (b := 8) (by omega), B56_20_o1, g (k - 8) (by omega)]
    dsimp only [Option.toList_some, List.cons_append, List.nil_append]
    rw [B56_23_o1]
theorem g_deck_0 {I : Nat → Nat → Int32} (hI : I 2 = m0f) {L : Nat → Nat → Int64} {pa pb pu pw : Option Nat} {s : Nat} (hs : s < 16) : jgo jTT jMM (d + 2) 57 [.ref 1, .int (nI s)] (shC, I, L, pX pa pb pu pw) K = K (some (.int 0)) (shC, I, L, pX pa pb pu pw) := by
  refine jgo_some rfl ?_
  show jv (d + 1) 57 0 [some (.ref 1), some (.int (nI s))] [] (shC, I, L, pX pa pb pu pw) = _
  have g : ∀ K, jgo jTT jMM (d + 1) 51 [.ref 1, .int 1, .int (nI s), .int 8] (shC, I, L, pX pa pb pu pw) K = K (some (.int 0)) (shC, I, L, pX pa pb pu pw) := fun K => by
    have e := of_1 (d := d) (I := I) (L := L) (pa := pa) (pb := pb) (pu := pu) (pw := pw) (a := 1) (b := s) (c := 8) (by decide) hs (by decide) none
    rw [hI, show m0f (fpN.getD 1 0 + s * fieldsN.getD 1 0 + 8) = 0 from m0f_hull hs (by decide)] at e
    exact jgo_some rfl e
  rw [B57_0_o1, g]
  dsimp only [Option.toList_some, List.cons_append, List.nil_append]
  rw [B57_8_o1]
def i4f : Nat → Nat → Int32 := j_up (j_up (j_up (j_up i3f 76 0 15) 78 0 15) 80 0 200000) 81 0 16
theorem bld_in {s : Nat} (hs : s < 16) : jv (d + 2) 33 10 [some (.ref 72), some (.ref 1), some (.int (nI s)), some (.int 0)] [] SC0 = jv (d + 2) 33 10 [some (.ref 72), some (.ref 1), some (.int (nI s)), some (.int (nI 16))] [] SC0 := by
  refine j_run (fun k => jv (d + 2) 33 10 [some (.ref 72), some (.ref 1), some (.int (nI s)), some (.int (nI k))] [] SC0) 16 (fun k hk => ?_)
  show jv (d + 2) 33 10 _ _ _ = jv (d + 2) 33 10 _ _ _
  have a1 : (16 : Int32) * nI s + nI k = nI (16 * s + k) := by rw [show (16 : Int32) = nI 16 from rfl, nI_mul, nI_add]
  have jx : j_in (nI (16 * s + k)) 256 = true := j_in_nI (by omega) (by decide)
  have z1 : j_up i3f 73 (16 * s + k) 0 = i3f := j_up_same _ _ _ _ rfl
  have z2 : j_up i3f 74 (16 * s + k) 0 = i3f := j_up_same _ _ _ _ rfl
  unfold SC0
  rw [B33_10, if_pos (show nI k < (16 : Int32) from nI_lt hk (by decide)), g_bot_0 rfl hs hk]
  dsimp only [Option.toList_some, List.cons_append, List.nil_append]
  rw [B33_34, a1, if_pos jx, nI_clamp (n := 16 * s + k) (by omega), show (64 : Int32) * 0 = 0 from rfl, z1, g_deck_0 rfl hs]
  dsimp only [Option.toList_some, List.cons_append, List.nil_append]
  rw [B33_53, if_pos jx, nI_clamp (n := 16 * s + k) (by omega), show (64 : Int32) * 0 = 0 from rfl, z2, nI_1]
theorem bld_out : ∀ m s, s + m = 16 → ∀ o3 : Option Value, ∃ o : Option Value, jv (d + 2) 33 2 [some (.ref 72), some (.ref 1), some (.int (nI s)), o3] [] SC0 = jv (d + 2) 33 2 [some (.ref 72), some (.ref 1), some (.int (nI 16)), o] [] SC0 := by
  intro m
  induction m with
  | zero =>
    intro s hs o3
    obtain rfl : s = 16 := by omega
    exact ⟨o3, rfl⟩
  | succ m ih =>
    intro s hs o3
    obtain ⟨o, ho⟩ := ih (s + 1) (by omega) (some (.int (nI 16)))
    refine ⟨o, Eq.trans ?_ ho⟩
    have e1 : jv (d + 2) 33 2 [some (.ref 72), some (.ref 1), some (.int (nI s)), o3] [] SC0 = jv (d + 2) 33 10 [some (.ref 72), some (.ref 1), some (.int (nI s)), some (.int 0)] [] SC0 := by
      unfold SC0
      rw [B33_2, if_pos (show nI s < (16 : Int32) from nI_lt (by omega) (by decide))]
    rw [e1, bld_in (by omega)]
    unfold SC0
    rw [B33_10, if_neg (by decide), nI_1]
theorem i4_z {p : Nat} : i4f 75 (p + 1) = 0 ∧ i4f 76 (p + 1) = 0 ∧ i4f 77 (p + 1) = 0 ∧ i4f 78 (p + 1) = 0 ∧ i4f 79 (p + 1) = 0 ∧ i4f 80 (p + 1) = 0 := ⟨rfl, rfl, rfl, rfl, rfl, rfl⟩
theorem i4_2 : i4f 2 = m0f := rfl
theorem bld_sp {p : Nat} (hp : p < 16) (o3 : Option Value) : jv (d + 2) 33 101 [some (.ref 72), some (.ref 1), some (.int (nI p)), o3] [] (shC, i4f, l3f, pX (some 38) (some 49) none none) = jv (d + 2) 33 101 [some (.ref 72), some (.ref 1), some (.int (nI (p + 1))), o3] [] (shC, i4f, l3f, pX (some 38) (some 49) none none) := by
  have g : ∀ f, f < 8 → ∀ K, jgo jTT jMM (d + 2) 51 [.ref 1, .int 2, .int (nI p), .int (nI f)] (shC, i4f, l3f, pX (some 38) (some 49) none none) K = K (some (.int 0)) (shC, i4f, l3f, pX (some 38) (some 49) none none) := fun f hf K => by
    have e := of_1 (d := d + 1) (I := i4f) (L := l3f) (pa := some 38) (pb := some 49) (pu := none) (pw := none) (a := 2) (b := p) (c := f) (by decide) hp hf none
    rw [i4_2, show m0f (fpN.getD 2 0 + p * fieldsN.getD 2 0 + f) = 0 from m0f_sps hp hf] at e
    exact jgo_some rfl e
  have jx : j_in (nI (p + 1)) 17 = true := j_in_nI (by omega) (by decide)
  have k1 : (nI (p + 1)).toNatClampNeg = p + 1 := nI_clamp (by omega)
  have g1 := g 1 (by decide)
  have g2 := g 2 (by decide)
  have g3 := g 3 (by decide)
  have g4 := g 4 (by decide)
  have g5 := g 5 (by decide)
  have g6 := g 6 (by decide)
  have n1 : nI 1 = (1 : Int32) := rfl
  have n2 : nI 2 = (2 : Int32) := rfl
  have n3 : nI 3 = (3 : Int32) := rfl
  have n4 : nI 4 = (4 : Int32) := rfl
  have n5 : nI 5 = (5 : Int32) := rfl
  have n6 : nI 6 = (6 : Int32) := rfl
  rw [n1] at g1
  rw [n2] at g2
  rw [n3] at g3
  rw [n4] at g4
  rw [n5] at g5
  rw [n6] at g6
  have z1 : j_up i4f 75 (p + 1) 0 = i4f := j_up_same _ _ _ _ i4_z.1
  have z2 : j_up i4f 76 (p + 1) 0 = i4f := j_up_same _ _ _ _ i4_z.2.1
  have z3 : j_up i4f 77 (p + 1) 0 = i4f := j_up_same _ _ _ _ i4_z.2.2.1
  have z4 : j_up i4f 78 (p + 1) 0 = i4f := j_up_same _ _ _ _ i4_z.2.2.2.1
  have z5 : j_up i4f 79 (p + 1) 0 = i4f := j_up_same _ _ _ _ i4_z.2.2.2.2.1
  have z6 : j_up i4f 80 (p + 1) 0 = i4f := j_up_same _ _ _ _ i4_z.2.2.2.2.2
  have z0 : (64 : Int32) * 0 = 0 := rfl
  rw [B33_101, if_pos (show nI p < (16 : Int32) from nI_lt hp (by decide)), g1, nI_1]
  dsimp only [Option.toList_some, List.cons_append, List.nil_append]
  rw [B33_121, if_pos jx, k1, z1, g2, nI_1]
  dsimp only [Option.toList_some, List.cons_append, List.nil_append]
  rw [B33_136, if_pos jx, k1, z2, g3, nI_1]
  dsimp only [Option.toList_some, List.cons_append, List.nil_append]
  rw [B33_151, if_pos jx, k1, z3, g4, nI_1]
  dsimp only [Option.toList_some, List.cons_append, List.nil_append]
  rw [B33_166, if_pos jx, k1, z4, g5, nI_1]
  dsimp only [Option.toList_some, List.cons_append, List.nil_append]
  rw [B33_183, if_pos jx, k1, z0, z5, g6, nI_1]
  dsimp only [Option.toList_some, List.cons_append, List.nil_append]
  rw [B33_202, if_pos jx, k1, z0, z6, nI_1]
theorem bld_0 : jv (d + 2) 33 0 [some (.ref 72), some (.ref 1), none, none] [] SC0 = some (none, (shC, i4f, l3f, pX (some 38) (some 49) none none)) := by
  have e0 : jv (d + 2) 33 0 [some (.ref 72), some (.ref 1), none, none] [] SC0 = jv (d + 2) 33 2 [some (.ref 72), some (.ref 1), some (.int (nI 0)), none] [] SC0 := by
    unfold SC0
    rw [B33_0]
    rfl
  obtain ⟨o, ho⟩ := bld_out (d := d) 16 0 rfl none
  have e1 : jv (d + 2) 33 2 [some (.ref 72), some (.ref 1), some (.int (nI 16)), o] [] SC0 = jv (d + 2) 33 101 [some (.ref 72), some (.ref 1), some (.int (nI 0)), o] [] (shC, i4f, l3f, pX (some 38) (some 49) none none) := by
    have jx : j_in 0 17 = true := by decide
    unfold SC0
    rw [B33_2, if_neg (by decide)]
    simp only [jx, ↓reduceIte]
    rfl
  have e2 := j_run (fun p => jv (d + 2) 33 101 [some (.ref 72), some (.ref 1), some (.int (nI p)), o] [] (shC, i4f, l3f, pX (some 38) (some 49) none none)) 16 (fun p hp => bld_sp hp o)
  rw [e0, ho, e1]
  refine Eq.trans e2 ?_
  rw [B33_101, if_neg (by decide)]
set_option maxRecDepth 100000 in
theorem T193_57 (d : Nat) (l1 t0 : Int32) (S : jS) : jv d 193 57 [some (.ref 0), some (.int l1)] [.int t0] S = some (some (.int t0), S) := (jblk_eq jTT jMM [57] d mq_193 2 _ _ _ _).trans rfl
theorem k_come : kI (jrunO 60000 1899 102 11 [some (.ref 60), some (.int 0), none, none, none, none, none] [] (shC, i4f, l3f, pX (some 38) (some 49) none none)) 1 shC = true := by decide +kernel
theorem sea_c0 : jEnds 193 [.int 0] SC0 (.int 1) := by
  obtain ⟨S', h1, h2⟩ := kI_some k_come
  have e1 : jev jTT jMM 1899 102 0 (j_ent (jMM 102).2 [.ref 60, .int 0]) [] SC0 = some (some (.int 1), S') := by
    show jv 1899 102 0 [some (.ref 60), some (.int 0), none, none, none, none, none] [] (shC, i3f, l3f, pX (some 38) (some 49) none none) = _
    rw [B102_0, jgo_some (d := 1898) rfl (bld_0 (d := 1896))]
    dsimp only [Option.toList_none, List.nil_append]
    exact jrunO_jev _ _ _ _ _ _ _ _ h1
  have z : j_up i3f 116 10 0 = i3f := j_up_same _ _ _ _ rfl
  refine ⟨S', rfl, ?_, h2⟩
  show jv 1900 193 0 [some (.ref 0), some (.int 0)] [] (shC, i3f, l3f, pX (some 38) (some 49) none none) = _
  have a0 : (0 : Int32) &&& ((0 : Int32) ^^^ (-1)) = 0 := by decide
  rw [B193_0, if_neg (by decide), if_pos (by decide), sh16, if_pos (by decide), g_kinds (d := 1894)]
  dsimp only [Option.toList_some, List.cons_append, List.nil_append]
  rw [B193_23, if_pos a0, if_pos fc_0_11, if_pos nb0, z, jgo_some (d := 1899) rfl e1]
  dsimp only [Option.toList_some, List.cons_append, List.nil_append]
  exact T193_57 1900 0 1 S'
end FIX
