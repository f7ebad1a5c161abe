/-! FRESH OBJECTS: their stores, runs that the kernel evaluates, small facts -/
def kI (o : jO) (z : Int32) (sh : List (Nat × Nat)) : Bool := match o with
  | some (some (.int x), S) => decide (x = z) && decide (S.1 = sh)
  | _ => false
def kL (o : jO) (z : Int64) (sh : List (Nat × Nat)) : Bool := match o with
  | some (some (.long x), S) => decide (x = z) && decide (S.1 = sh)
  | _ => false
theorem kI_some {o : jO} {z : Int32} {sh : List (Nat × Nat)} (h : kI o z sh = true) : ∃ S', o = some (some (.int z), S') ∧ S'.1 = sh := by
  unfold kI at h
  split at h
  · next x S =>
    rw [Bool.and_eq_true, decide_eq_true_eq, decide_eq_true_eq] at h
    exact ⟨S, by rw [h.1], h.2⟩
  · cases h
theorem kL_some {o : jO} {z : Int64} {sh : List (Nat × Nat)} (h : kL o z sh = true) : ∃ S', o = some (some (.long z), S') ∧ S'.1 = sh := by
  unfold kL at h
  split at h
  · next x S =>
    rw [Bool.and_eq_true, decide_eq_true_eq, decide_eq_true_eq] at h
    exact ⟨S, by rw [h.1], h.2⟩
  · cases h
/-- the call of k ends with v, and no cell is new -/
def jEnds (k : Nat) (as : List Value) (S : jS) (v : Value) : Prop := ∃ S', jCall k as S v S'
theorem kI_ends {n k : Nat} {as : List Value} {S : jS} {z : Int32} (hf : Nat.ble (j_wd (.ref 0 :: as)) (jMM k).2 = true) (h : kI (jrun jTT jMM n 1900 k 0 (j_ent (jMM k).2 (.ref 0 :: as)) [] S) z S.1 = true) : jEnds k as S (.int z) := by
  obtain ⟨S', h1, h2⟩ := kI_some h
  exact ⟨S', hf, jev_iff.mpr ⟨n, h1⟩, h2⟩
theorem kL_ends {n k : Nat} {as : List Value} {S : jS} {z : Int64} (hf : Nat.ble (j_wd (.ref 0 :: as)) (jMM k).2 = true) (h : kL (jrun jTT jMM n 1900 k 0 (j_ent (jMM k).2 (.ref 0 :: as)) [] S) z S.1 = true) : jEnds k as S (.long z) := by
  obtain ⟨S', h1, h2⟩ := kL_some h
  exact ⟨S', hf, jev_iff.mpr ⟨n, h1⟩, h2⟩
theorem pC_X : pC = pX (some 38) (some 49) none none := by
  funext c f
  unfold pX
  split <;> rfl
def SC0 : jS := (shC, i3f, l3f, pX (some 38) (some 49) none none)
def SR0 : jS := (shR, rI0, fun _ _ => 0, pR)
theorem ends_c {k : Nat} {as : List Value} {v : Value} {I : Nat → Nat → Int32} {L : Nat → Nat → Int64} {P : Nat → Nat → Option Nat} (hf : Nat.ble (j_wd (.ref 0 :: as)) (jMM k).2 = true) (h : ∀ d, jv (d + 6) k 0 (j_ent (jMM k).2 (.ref 0 :: as)) [] SC0 = some (some v, (shC, I, L, P))) : jEnds k as SC0 v := ⟨_, hf, h 1894, rfl⟩
theorem ends_r {k : Nat} {as : List Value} {v : Value} {I : Nat → Nat → Int32} {L : Nat → Nat → Int64} {P : Nat → Nat → Option Nat} (hf : Nat.ble (j_wd (.ref 0 :: as)) (jMM k).2 = true) (h : ∀ d, jv (d + 6) k 0 (j_ent (jMM k).2 (.ref 0 :: as)) [] SR0 = some (some v, (shR, I, L, P))) : jEnds k as SR0 v := ⟨_, hf, h 1894, rfl⟩
theorem ends_c0 {k : Nat} {as : List Value} {v : Value} (hf : Nat.ble (j_wd (.ref 0 :: as)) (jMM k).2 = true) (h : ∀ d, jv (d + 6) k 0 (j_ent (jMM k).2 (.ref 0 :: as)) [] SC0 = some (some v, SC0)) : jEnds k as SC0 v := ⟨_, hf, h 1894, rfl⟩
theorem ends_r0 {k : Nat} {as : List Value} {v : Value} (hf : Nat.ble (j_wd (.ref 0 :: as)) (jMM k).2 = true) (h : ∀ d, jv (d + 6) k 0 (j_ent (jMM k).2 (.ref 0 :: as)) [] SR0 = some (some v, SR0)) : jEnds k as SR0 v := ⟨_, hf, h 1894, rfl⟩
theorem fc_0_11 : i3f 0 11 = 0 := rfl
theorem fc_0_7 : i3f 0 7 = 0 := rfl
theorem fc_0_8 : i3f 0 8 = 0 := rfl
theorem fc_23_1 : i3f 23 1 = 0 := rfl
theorem fc_60_2 : i3f 60 2 = 0 := rfl
theorem fc_38_13 : i3f 38 13 = 0 := rfl
theorem fc_38_11 : i3f 38 11 = 0 := rfl
theorem fc_83_0 : i3f 83 0 = 0 := rfl
theorem fc_107_0 : i3f 107 0 = 0 := rfl
theorem fc_8_0 : i3f 8 0 = 0 := rfl
theorem fc_13_0 : i3f 13 0 = 0 := rfl
theorem fc_18_0 : i3f 18 0 = 0 := rfl
theorem fr_0_15 : rI0 0 15 = 0 := rfl
theorem fr_0_17 : rI0 0 17 = 0 := rfl
theorem fr_0_18 : rI0 0 18 = 0 := rfl
theorem fr_0_20 : rI0 0 20 = 0 := rfl
theorem fr_0_39 : rI0 0 39 = 0 := rfl
theorem fr_0_49 : rI0 0 49 = 0 := rfl
theorem fr_0_59 : rI0 0 59 = 0 := rfl
theorem fr_0_87 : rI0 0 87 = 0 := rfl
theorem fr_0_103 : rI0 0 103 = 0 := rfl
theorem fr_0_107 : rI0 0 107 = 0 := rfl
theorem fr_0_120 : rI0 0 120 = 0 := rfl
theorem fr_9 (j : Nat) : rI0 9 j = 0 := rfl
theorem z0_11 : z_0.getD (11 : Int32).toNatClampNeg 0 = 9 := by decide +kernel
theorem z0_9 : z_0.getD (9 : Int32).toNatClampNeg 0 = 6 := by decide +kernel
theorem z0_10 : z_0.getD (10 : Int32).toNatClampNeg 0 = 7 := by decide +kernel
theorem z0_2 : z_0.getD (2 : Int32).toNatClampNeg 0 = 16 := by decide +kernel
theorem i_small {x : Int32} {n : Nat} (h0 : ¬ x < 0) (h1 : x < nI n) (hn : n < 2 ^ 31) : ∃ j : Nat, j < n ∧ x = nI j := by
  obtain ⟨j, hj, rfl⟩ := nI_of h0
  exact ⟨j, (nI_ltI hj hn).mp h1, rfl⟩
theorem j_in_of {x : Int32} {n : Nat} (hn : n < 2 ^ 31) (h0 : ¬ x < 0) (h1 : x < nI n) : j_in x n = true := by
  obtain ⟨j, hj, rfl⟩ := i_small h0 h1 hn
  exact j_in_nI hj hn
theorem i_zero {x : Int32} (h0 : ¬ x < 0) (h1 : ¬ 0 < x) : x = 0 := Int32.le_antisymm (Int32.not_lt.mp h1) (Int32.not_lt.mp h0)
theorem i_pos {x : Int32} (h : ¬ x < 1) : 0 < x := by
  rw [Int32.lt_iff_toInt_lt] at h ⊢
  rw [show (1 : Int32).toInt = 1 from rfl] at h
  rw [show (0 : Int32).toInt = 0 from rfl]
  omega
theorem i_nlt6 {x : Int32} (h : 5 < x) : ¬ x < 6 := by
  rw [Int32.lt_iff_toInt_lt] at h ⊢
  rw [show (5 : Int32).toInt = 5 from rfl] at h
  rw [show (6 : Int32).toInt = 6 from rfl]
  omega
theorem i_lt6 {x : Int32} (h : ¬ 5 < x) : x < 6 := by
  rw [Int32.lt_iff_toInt_lt] at h ⊢
  rw [show (5 : Int32).toInt = 5 from rfl] at h
  rw [show (6 : Int32).toInt = 6 from rfl]
  omega
theorem i_nlt7 {x : Int32} (h : 6 < x) : ¬ x < 7 := by
  rw [Int32.lt_iff_toInt_lt] at h ⊢
  rw [show (6 : Int32).toInt = 6 from rfl] at h
  rw [show (7 : Int32).toInt = 7 from rfl]
  omega
theorem i_lt7 {x : Int32} (h : ¬ 6 < x) : x < 7 := by
  rw [Int32.lt_iff_toInt_lt] at h ⊢
  rw [show (6 : Int32).toInt = 6 from rfl] at h
  rw [show (7 : Int32).toInt = 7 from rfl]
  omega
theorem i_nlt9 {x : Int32} (h : 8 < x) : ¬ x < 9 := by
  rw [Int32.lt_iff_toInt_lt] at h ⊢
  rw [show (8 : Int32).toInt = 8 from rfl] at h
  rw [show (9 : Int32).toInt = 9 from rfl]
  omega
theorem i_lt9 {x : Int32} (h : ¬ 8 < x) : x < 9 := by
  rw [Int32.lt_iff_toInt_lt] at h ⊢
  rw [show (8 : Int32).toInt = 8 from rfl] at h
  rw [show (9 : Int32).toInt = 9 from rfl]
  omega
theorem i_le3 {x : Int32} (h : ¬ 3 < x) : x < nI 4 := by
  rw [Int32.lt_iff_toInt_lt] at h ⊢
  rw [show (3 : Int32).toInt = 3 from rfl] at h
  rw [show (nI 4).toInt = 4 from rfl]
  omega
theorem i_le15 {x : Int32} (h : ¬ 15 < x) : x < nI 16 := by
  rw [Int32.lt_iff_toInt_lt] at h ⊢
  rw [show (15 : Int32).toInt = 15 from rfl] at h
  rw [show (nI 16).toInt = 16 from rfl]
  omega
theorem i_mid {x : Int32} (h0 : ¬ x < 0) (h1 : ¬ 5 < x) (g0 : ¬ x = 0) (g1 : ¬ x = 1) (g2 : ¬ x = 2) : ∃ j : Nat, j < 3 ∧ x = nI (j + 3) := by
  obtain ⟨n, hn, rfl⟩ := i_small (n := 6) h0 (i_lt6 h1) (by decide)
  have e0 : n ≠ 0 := fun e => g0 (by rw [e]; rfl)
  have e1 : n ≠ 1 := fun e => g1 (by rw [e]; rfl)
  have e2 : n ≠ 2 := fun e => g2 (by rw [e]; rfl)
  exact ⟨n - 3, by omega, by rw [show n - 3 + 3 = n by omega]⟩
/-- is it a person -/
def perv (x : Int32) : Int32 := if x < 0 then 0 else if x < 3 then 1 else 0
theorem nb0 : vp_nar .boolean 0 = 0 := by decide +kernel
theorem nb1 : vp_nar .boolean 1 = 1 := by decide +kernel
section FIRST
variable {d : Nat} {I : Nat → Nat → Int32} {L : Nat → Nat → Int64} {pa pb pu pw : Option Nat} {K : Option Value → jS → jO}
theorem per_c (x : Int32) : jv d 188 0 [some (.int x)] [] (shC, I, L, pX pa pb pu pw) = some (some (.int (perv x)), (shC, I, L, pX pa pb pu pw)) := by
  unfold perv
  rw [B188_0]
  by_cases h1 : x < 0
  · rw [if_pos h1, if_pos h1, B188_13, B188_14, if_pos nb0]
  · rw [if_neg h1, if_neg h1]
    by_cases h2 : x < 3
    · rw [if_pos h2, if_pos h2, B188_14, if_pos nb1]
    · rw [if_neg h2, if_neg h2, B188_13, B188_14, if_pos nb0]
theorem per_r (x : Int32) : jv d 219 0 [some (.int x)] [] (shR, I, L, pR) = some (some (.int (perv x)), (shR, I, L, pR)) := by
  unfold perv
  rw [B219_0]
  by_cases h1 : x < 0
  · rw [if_pos h1, if_pos h1, B219_13, B219_14, if_pos nb0]
  · rw [if_neg h1, if_neg h1]
    by_cases h2 : x < 3
    · rw [if_pos h2, if_pos h2, B219_14, if_pos nb1]
    · rw [if_neg h2, if_neg h2, B219_13, B219_14, if_pos nb0]
theorem g_per_c (x : Int32) : jgo jTT jMM (d + 1) 188 [.int x] (shC, I, L, pX pa pb pu pw) K = K (some (.int (perv x))) (shC, I, L, pX pa pb pu pw) := jgo_some rfl (per_c x)
theorem g_per_r (x : Int32) : jgo jTT jMM (d + 1) 219 [.int x] (shR, I, L, pR) K = K (some (.int (perv x))) (shR, I, L, pR) := jgo_some rfl (per_r x)
theorem rests_c0 (h : I 60 2 = 0) : jv d 96 0 [some (.ref 60)] [] (shC, I, L, pX pa pb pu pw) = some (some (.int 0), (shC, I, L, pX pa pb pu pw)) := by rw [B96_0, if_pos h, B96_22, B96_23, if_pos nb0]
theorem rests_r0 (h : I 0 59 = 0) : jv d 292 0 [some (.ref 0)] [] (shR, I, L, pR) = some (some (.int 0), (shR, I, L, pR)) := by rw [B292_0, if_pos h, B292_18, B292_19, if_pos nb0]
theorem way_c0 (h : I 96 0 = 0) (x : Int32) : jv d 77 0 [some (.ref 96), some (.int x)] [] (shC, I, L, pX pa pb pu pw) = some (some (.int 0), (shC, I, L, pX pa pb pu pw)) := by rw [B77_0, if_pos h, B77_30, B77_31, if_pos nb0]
theorem task_c0 (h : I 107 1 = 0) (x : Int32) : jv d 133 0 [some (.ref 107), some (.int x)] [] (shC, I, L, pX pa pb pu pw) = some (some (.int 0), (shC, I, L, pX pa pb pu pw)) := by rw [B133_0, if_pos h, B133_37, B133_38, if_pos nb0]
theorem g_rests_c : jgo jTT jMM (d + 1) 96 [.ref 60] (shC, i3f, L, pX pa pb pu pw) K = K (some (.int 0)) (shC, i3f, L, pX pa pb pu pw) := jgo_some rfl (rests_c0 rfl)
theorem g_rests_r : jgo jTT jMM (d + 1) 292 [.ref 0] (shR, rI0, L, pR) K = K (some (.int 0)) (shR, rI0, L, pR) := jgo_some rfl (rests_r0 rfl)
theorem g_way_c (x : Int32) : jgo jTT jMM (d + 1) 77 [.ref 96, .int x] (shC, i3f, L, pX pa pb pu pw) K = K (some (.int 0)) (shC, i3f, L, pX pa pb pu pw) := jgo_some rfl (way_c0 rfl x)
theorem g_task_c (x : Int32) : jgo jTT jMM (d + 1) 133 [.ref 107, .int x] (shC, i3f, L, pX pa pb pu pw) K = K (some (.int 0)) (shC, i3f, L, pX pa pb pu pw) := jgo_some rfl (task_c0 rfl x)
theorem i_add01 : (0 : Int32) + 1 = 1 := rfl
theorem i_add11 : (1 : Int32) + 1 = 2 := rfl
theorem i_add21 : (2 : Int32) + 1 = 3 := rfl
theorem i_add00 : (0 : Int32) + 0 = 0 := rfl
theorem g_told_r (x : Int32) (o2 o3 : Option Value) : jv d 241 0 [some (.ref 0), some (.int x), o2, o3] [] (shR, rI0, L, pR) = jv d 241 4 [some (.ref 0), some (.int x), some (.int 0), some (.int 3)] [] (shR, rI0, L, pR) := by
  rw [B241_0, B241_4, if_pos (by decide), if_pos (by decide), if_pos (fr_9 _), B241_24, i_add00, i_add01]
  rw [B241_4, if_pos (by decide), if_pos (by decide), if_pos (fr_9 _), B241_24, i_add00, i_add11]
  rw [B241_4, if_pos (by decide), if_pos (by decide), if_pos (fr_9 _), B241_24, i_add00, i_add21]
end FIRST
