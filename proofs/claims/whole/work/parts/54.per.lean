/-! A PERSON IN THE CLASS: what its methods do to its cells, by program -/
theorem ny0 : vp_nar .byte 0 = 0 := by decide +kernel
theorem ny1 : vp_nar .byte 1 = 1 := by decide +kernel
section MODEL
variable {d : Nat} {I : Nat → Nat → Int32} {L : Nat → Nat → Int64} {pa pb pu pw : Option Nat} {K : Option Value → jS → jO}
theorem g_fill_b {a n : Nat} (h : j_sh shC a = some (101, n)) (hn : n < 2 ^ 31) : jgo jTT jMM (d + 1) 365 [.ref a, .int 0] (shC, I, L, pX pa pb pu pw) K = K none (shC, va_up I a (j_fill (I a) (fun _ => 0) n), L, pX pa pb pu pw) := by
  have e := fill_byte (d := d) h hn 0 none none I L (pX pa pb pu pw)
  rw [ny0] at e
  exact jgo_some rfl e
theorem at_m1 {q : Nat} (hq : q < 1189) : jv d 49 0 [some (.ref 1), some (.int (nI q))] [] (shC, I, L, pX pa pb pu pw) = some (some (.int (I 2 q)), (shC, I, L, pX pa pb pu pw)) := by
  rw [B49_0_o1, if_neg (nI_pos (by omega)), if_pos (show nI q < (1189 : Int32) from nI_lt hq (by decide)), if_pos (j_in_nI hq (by decide)), nI_clamp (by omega), B49_21_o1]
theorem g_at_m1 {q : Nat} (hq : q < 1189) : jgo jTT jMM (d + 1) 49 [.ref 1, .int (nI q)] (shC, I, L, pX pa pb pu pw) K = K (some (.int (I 2 q))) (shC, I, L, pX pa pb pu pw) := jgo_some rfl (at_m1 hq)
theorem set_m1 {q : Nat} (hq : q < 1189) (v : Int32) : jv d 50 0 [some (.ref 1), some (.int (nI q)), some (.int v)] [] (shC, I, L, pX pa pb pu pw) = some (none, (shC, j_up I 2 q v, L, pX pa pb pu pw)) := by
  rw [B50_0_o1, if_neg (nI_pos (by omega)), if_pos (show nI q < (1189 : Int32) from nI_lt hq (by decide)), if_pos (j_in_nI hq (by decide)), nI_clamp (by omega), B50_18_o1]
theorem g_set_m1 {q : Nat} (hq : q < 1189) (v : Int32) : jgo jTT jMM (d + 1) 50 [.ref 1, .int (nI q), .int v] (shC, I, L, pX pa pb pu pw) K = K none (shC, j_up I 2 q v, L, pX pa pb pu pw) := jgo_some rfl (set_m1 hq v)
theorem at_m3 {q : Nat} (hq : q < 1189) : jv d 49 0 [some (.ref 3), some (.int (nI q))] [] (shC, I, L, pX pa pb pu pw) = some (some (.int (I 4 q)), (shC, I, L, pX pa pb pu pw)) := by
  rw [B49_0_o3, if_neg (nI_pos (by omega)), if_pos (show nI q < (1189 : Int32) from nI_lt hq (by decide)), if_pos (j_in_nI hq (by decide)), nI_clamp (by omega), B49_21_o3]
theorem g_at_m3 {q : Nat} (hq : q < 1189) : jgo jTT jMM (d + 1) 49 [.ref 3, .int (nI q)] (shC, I, L, pX pa pb pu pw) K = K (some (.int (I 4 q))) (shC, I, L, pX pa pb pu pw) := jgo_some rfl (at_m3 hq)
theorem set_m3 {q : Nat} (hq : q < 1189) (v : Int32) : jv d 50 0 [some (.ref 3), some (.int (nI q)), some (.int v)] [] (shC, I, L, pX pa pb pu pw) = some (none, (shC, j_up I 4 q v, L, pX pa pb pu pw)) := by
  rw [B50_0_o3, if_neg (nI_pos (by omega)), if_pos (show nI q < (1189 : Int32) from nI_lt hq (by decide)), if_pos (j_in_nI hq (by decide)), nI_clamp (by omega), B50_18_o3]
theorem g_set_m3 {q : Nat} (hq : q < 1189) (v : Int32) : jgo jTT jMM (d + 1) 50 [.ref 3, .int (nI q), .int v] (shC, I, L, pX pa pb pu pw) K = K none (shC, j_up I 4 q v, L, pX pa pb pu pw) := jgo_some rfl (set_m3 hq v)
theorem at_m5 {q : Nat} (hq : q < 1189) : jv d 49 0 [some (.ref 5), some (.int (nI q))] [] (shC, I, L, pX pa pb pu pw) = some (some (.int (I 6 q)), (shC, I, L, pX pa pb pu pw)) := by
  rw [B49_0_o5, if_neg (nI_pos (by omega)), if_pos (show nI q < (1189 : Int32) from nI_lt hq (by decide)), if_pos (j_in_nI hq (by decide)), nI_clamp (by omega), B49_21_o5]
theorem g_at_m5 {q : Nat} (hq : q < 1189) : jgo jTT jMM (d + 1) 49 [.ref 5, .int (nI q)] (shC, I, L, pX pa pb pu pw) K = K (some (.int (I 6 q))) (shC, I, L, pX pa pb pu pw) := jgo_some rfl (at_m5 hq)
theorem set_m5 {q : Nat} (hq : q < 1189) (v : Int32) : jv d 50 0 [some (.ref 5), some (.int (nI q)), some (.int v)] [] (shC, I, L, pX pa pb pu pw) = some (none, (shC, j_up I 6 q v, L, pX pa pb pu pw)) := by
  rw [B50_0_o5, if_neg (nI_pos (by omega)), if_pos (show nI q < (1189 : Int32) from nI_lt hq (by decide)), if_pos (j_in_nI hq (by decide)), nI_clamp (by omega), B50_18_o5]
theorem g_set_m5 {q : Nat} (hq : q < 1189) (v : Int32) : jgo jTT jMM (d + 1) 50 [.ref 5, .int (nI q), .int v] (shC, I, L, pX pa pb pu pw) K = K none (shC, j_up I 6 q v, L, pX pa pb pu pw) := jgo_some rfl (set_m5 hq v)
/-- the sum of the first n -/
def l_sm (f : Nat → Int32) : Nat → Int32
  | 0 => 0
  | n + 1 => l_sm f n + f n
/-! the person at 8 -/
def bgI8 (I : Nat → Nat → Int32) (c : Int32) : Nat → Nat → Int32 := va_up (va_up (va_up (j_up (j_up I 8 0 1) 8 1 c) 10 (j_fill (I 10) (fun _ => 0) 1189)) 11 (j_fill (I 11) (fun _ => 0) 148)) 12 (j_fill (I 12) (fun _ => 0) 148)
theorem begin_8 (c : Int32) : jv (d + 1) 70 0 [some (.ref 8), some (.int c)] [] (shC, I, L, pX pa pb pu pw) = some (none, (shC, bgI8 I c, L, pX pa pb pu pw)) := by
  rw [B70_0_o8, if_pos nb1, g_fill_b (n := 1189) rfl (by decide)]
  dsimp only [Option.toList_none, List.nil_append]
  rw [B70_18_o8, g_fill_b (n := 148) rfl (by decide)]
  dsimp only [Option.toList_none, List.nil_append]
  rw [B70_26_o8, g_fill_b (n := 148) rfl (by decide)]
  dsimp only [Option.toList_none, List.nil_append]
  rw [B70_34_o8]
  rfl
def stI8 (I : Nat → Nat → Int32) (q r : Nat) (v : Int32) : Nat → Nat → Int32 := j_up (j_up (j_up I 9 q v) 10 q 1) 12 r 1
theorem set_8 {q r : Nat} (hq : q < 1189) (hr : r < 148) (v : Int32) : jv d 71 0 [some (.ref 8), some (.int (nI q)), some (.int (nI r)), some (.int v)] [] (shC, I, L, pX pa pb pu pw) = some (none, (shC, stI8 I q r v, L, pX pa pb pu pw)) := by
  rw [B71_0_o8, if_neg (nI_pos (by omega)), if_pos (show nI q < (1189 : Int32) from nI_lt hq (by decide)), if_neg (nI_pos (by omega)), if_pos (show nI r < (148 : Int32) from nI_lt hr (by decide)), if_pos (j_in_nI hq (by decide)), if_pos (j_in_nI hq (by decide)), if_pos (j_in_nI hr (by decide)), nI_clamp (by omega), nI_clamp (by omega), ny1]
  rfl
theorem g_set_8 {q r : Nat} (hq : q < 1189) (hr : r < 148) (v : Int32) : jgo jTT jMM (d + 1) 71 [.ref 8, .int (nI q), .int (nI r), .int v] (shC, I, L, pX pa pb pu pw) K = K none (shC, stI8 I q r v, L, pX pa pb pu pw) := jgo_some rfl (set_8 hq hr v)
theorem see_8 {q r : Nat} (hq : q < 1189) (hr : r < 148) : jv (d + 1) 72 0 [some (.ref 8), some (.int (nI q)), some (.int (nI r)), some (.ref 1)] [] (shC, I, L, pX pa pb pu pw) = some (some (.int (if I 10 q = 0 then I 2 q else I 9 q)), (shC, j_up I 11 r 1, L, pX pa pb pu pw)) := by
  rw [B72_0_o8, if_neg (nI_pos (by omega)), if_pos (show nI q < (1189 : Int32) from nI_lt hq (by decide)), if_neg (nI_pos (by omega)), if_pos (show nI r < (148 : Int32) from nI_lt hr (by decide)), if_pos (j_in_nI hr (by decide)), if_pos (j_in_nI hq (by decide)), nI_clamp (by omega), nI_clamp (by omega), ny1, j_up_cell _ (by decide), j_up_cell _ (by decide)]
  by_cases h : I 10 q = 0
  · rw [if_pos h, if_pos h, g_at_m1 hq, j_up_cell _ (by decide)]
    dsimp only [Option.toList_some, List.cons_append, List.nil_append]
    rw [B72_54_o8]
  · rw [if_neg h, if_neg h, if_pos (j_in_nI hq (by decide)), B72_54_o8]
theorem g_see_8 {q r : Nat} (hq : q < 1189) (hr : r < 148) : jgo jTT jMM (d + 2) 72 [.ref 8, .int (nI q), .int (nI r), .ref 1] (shC, I, L, pX pa pb pu pw) K = K (some (.int (if I 10 q = 0 then I 2 q else I 9 q))) (shC, j_up I 11 r 1, L, pX pa pb pu pw) := jgo_some rfl (see_8 hq hr)
/-- the rows of its own that have changed since -/
def cl8 (I : Nat → Nat → Int32) (r : Nat) : Prop := 0 < I 11 r + I 12 r ∧ I 8 1 < I 25 r
theorem clash_to_8 {n : Nat} (hn : n ≤ 148) (h : ∀ r, r < n → ¬ cl8 I r) (o2 : Option Value) : jv d 73 0 [some (.ref 8), some (.ref 25), o2] [] (shC, I, L, pX pa pb pu pw) = jv d 73 2 [some (.ref 8), some (.ref 25), some (.int (nI n))] [] (shC, I, L, pX pa pb pu pw) := by
  rw [B73_0_o8]
  refine j_run (fun i => jv d 73 2 [some (.ref 8), some (.ref 25), some (.int (nI i))] [] (shC, I, L, pX pa pb pu pw)) n (fun i hi => ?_)
  show jv d 73 2 _ _ _ = jv d 73 2 _ _ _
  have hi' : i < 148 := by omega
  have hs : nI i < (148 : Int32) := nI_lt hi' (by decide)
  rw [B73_2_o8, if_pos hs, if_pos hs, if_pos (j_in_nI hi' (by decide)), if_pos (j_in_nI hi' (by decide)), nI_clamp (by omega)]
  by_cases h1 : 0 < I 11 i + I 12 i
  · rw [if_pos h1, if_pos (j_in_nI hi' (by decide))]
    by_cases h2 : I 8 1 < I 25 i
    · exact absurd ⟨h1, h2⟩ (h i hi)
    · rw [if_neg h2, B73_43_o8, nI_1]
  · rw [if_neg h1, B73_43_o8, nI_1]
theorem clash_at_8 {n : Nat} (hn : n < 148) (h : ∀ r, r < n → ¬ cl8 I r) (hc : cl8 I n) (o2 : Option Value) : jv d 73 0 [some (.ref 8), some (.ref 25), o2] [] (shC, I, L, pX pa pb pu pw) = some (some (.int (nI n)), (shC, I, L, pX pa pb pu pw)) := by
  have hs : nI n < (148 : Int32) := nI_lt hn (by decide)
  rw [clash_to_8 (by omega) h, B73_2_o8, if_pos hs, if_pos hs, if_pos (j_in_nI hn (by decide)), if_pos (j_in_nI hn (by decide)), nI_clamp (by omega), if_pos hc.1, if_pos (j_in_nI hn (by decide)), if_pos hc.2]
theorem clash_no_8 (h : ∀ r, r < 148 → ¬ cl8 I r) (o2 : Option Value) : jv d 73 0 [some (.ref 8), some (.ref 25), o2] [] (shC, I, L, pX pa pb pu pw) = some (some (.int (-1)), (shC, I, L, pX pa pb pu pw)) := by
  rw [clash_to_8 (Nat.le_refl 148) h, B73_2_o8, if_neg (by decide), B73_49_o8]
/-- its values laid over the trial model, the first n -/
def lyf8 (I : Nat → Nat → Int32) (n : Nat) : Nat → Int32 := fun q => if q < n then (if I 10 q = 0 then I 4 q else I 9 q) else I 4 q
theorem lay_8 (o2 : Option Value) : jv (d + 1) 74 0 [some (.ref 8), some (.ref 3), o2] [] (shC, I, L, pX pa pb pu pw) = some (none, (shC, va_up I 4 (lyf8 I 1189), L, pX pa pb pu pw)) := by
  rw [B74_0_o8]
  have h := j_run (fun i => jv (d + 1) 74 2 [some (.ref 8), some (.ref 3), some (.int (nI i))] [] (shC, va_up I 4 (lyf8 I i), L, pX pa pb pu pw)) 1189 (fun i hi => by
    show jv (d + 1) 74 2 _ _ _ = jv (d + 1) 74 2 _ _ _
    have hs : nI i < (1189 : Int32) := nI_lt hi (by decide)
    rw [B74_2_o8, if_pos hs, if_pos (j_in_nI hi (by decide)), nI_clamp (by omega), va_up_ne _ _ (show (10 : Nat) ≠ 4 by decide)]
    by_cases h1 : I 10 i = 0
    · rw [if_pos h1, B74_29_o8, nI_1]
      have e : lyf8 I i = lyf8 I (i + 1) := by
        funext q
        unfold lyf8
        by_cases hq : q = i
        · subst hq
          rw [if_neg (Nat.lt_irrefl q), if_pos (Nat.lt_succ_self q), if_pos h1]
        · by_cases h2 : q < i
          · rw [if_pos h2, if_pos (show q < i + 1 by omega)]
          · rw [if_neg h2, if_neg (show ¬ q < i + 1 by omega)]
      rw [e]
    · rw [if_neg h1, if_pos (j_in_nI hi (by decide)), va_up_ne _ _ (show (9 : Nat) ≠ 4 by decide), g_set_m3 hi]
      dsimp only [Option.toList_none, List.nil_append]
      rw [B74_29_o8, nI_1, j_up_va_self]
      have e : va_up (lyf8 I i) i (I 9 i) = lyf8 I (i + 1) := by
        funext q
        simp only [va_up, lyf8]
        by_cases hq : q = i
        · subst hq
          rw [if_pos rfl, if_pos (Nat.lt_succ_self q), if_neg h1]
        · rw [if_neg hq]
          by_cases h2 : q < i
          · rw [if_pos h2, if_pos (show q < i + 1 by omega)]
          · rw [if_neg h2, if_neg (show ¬ q < i + 1 by omega)]
      rw [e])
  refine Eq.trans ?_ (h.trans ?_)
  · show _ = jv (d + 1) 74 2 [some (.ref 8), some (.ref 3), some (.int (nI 0))] [] (shC, va_up I 4 (lyf8 I 0), L, pX pa pb pu pw)
    have e : lyf8 I 0 = I 4 := by
      funext q
      unfold lyf8
      rw [if_neg (Nat.not_lt_zero q)]
    rw [e, va_up_same]
    rfl
  · show jv (d + 1) 74 2 [some (.ref 8), some (.ref 3), some (.int (nI 1189))] [] (shC, va_up I 4 (lyf8 I 1189), L, pX pa pb pu pw) = _
    rw [B74_2_o8, if_neg (by decide)]
theorem rows_8 (o1 o2 : Option Value) : jv d 75 0 [some (.ref 8), o1, o2] [] (shC, I, L, pX pa pb pu pw) = some (some (.int (l_sm (I 12) 148)), (shC, I, L, pX pa pb pu pw)) := by
  rw [B75_0_o8]
  have h := j_run (fun i => jv d 75 4 [some (.ref 8), some (.int (l_sm (I 12) i)), some (.int (nI i))] [] (shC, I, L, pX pa pb pu pw)) 148 (fun i hi => by
    show jv d 75 4 _ _ _ = jv d 75 4 _ _ _
    rw [B75_4_o8, if_pos (show nI i < (148 : Int32) from nI_lt hi (by decide)), if_pos (j_in_nI hi (by decide)), nI_clamp (by omega), nI_1]
    rfl)
  refine h.trans ?_
  show jv d 75 4 [some (.ref 8), some (.int (l_sm (I 12) 148)), some (.int (nI 148))] [] (shC, I, L, pX pa pb pu pw) = _
  rw [B75_4_o8, if_neg (by decide)]
/-! the person at 13 -/
def bgI13 (I : Nat → Nat → Int32) (c : Int32) : Nat → Nat → Int32 := va_up (va_up (va_up (j_up (j_up I 13 0 1) 13 1 c) 15 (j_fill (I 15) (fun _ => 0) 1189)) 16 (j_fill (I 16) (fun _ => 0) 148)) 17 (j_fill (I 17) (fun _ => 0) 148)
theorem begin_13 (c : Int32) : jv (d + 1) 70 0 [some (.ref 13), some (.int c)] [] (shC, I, L, pX pa pb pu pw) = some (none, (shC, bgI13 I c, L, pX pa pb pu pw)) := by
  rw [B70_0_o13, if_pos nb1, g_fill_b (n := 1189) rfl (by decide)]
  dsimp only [Option.toList_none, List.nil_append]
  rw [B70_18_o13, g_fill_b (n := 148) rfl (by decide)]
  dsimp only [Option.toList_none, List.nil_append]
  rw [B70_26_o13, g_fill_b (n := 148) rfl (by decide)]
  dsimp only [Option.toList_none, List.nil_append]
  rw [B70_34_o13]
  rfl
def stI13 (I : Nat → Nat → Int32) (q r : Nat) (v : Int32) : Nat → Nat → Int32 := j_up (j_up (j_up I 14 q v) 15 q 1) 17 r 1
theorem set_13 {q r : Nat} (hq : q < 1189) (hr : r < 148) (v : Int32) : jv d 71 0 [some (.ref 13), some (.int (nI q)), some (.int (nI r)), some (.int v)] [] (shC, I, L, pX pa pb pu pw) = some (none, (shC, stI13 I q r v, L, pX pa pb pu pw)) := by
  rw [B71_0_o13, if_neg (nI_pos (by omega)), if_pos (show nI q < (1189 : Int32) from nI_lt hq (by decide)), if_neg (nI_pos (by omega)), if_pos (show nI r < (148 : Int32) from nI_lt hr (by decide)), if_pos (j_in_nI hq (by decide)), if_pos (j_in_nI hq (by decide)), if_pos (j_in_nI hr (by decide)), nI_clamp (by omega), nI_clamp (by omega), ny1]
  rfl
theorem g_set_13 {q r : Nat} (hq : q < 1189) (hr : r < 148) (v : Int32) : jgo jTT jMM (d + 1) 71 [.ref 13, .int (nI q), .int (nI r), .int v] (shC, I, L, pX pa pb pu pw) K = K none (shC, stI13 I q r v, L, pX pa pb pu pw) := jgo_some rfl (set_13 hq hr v)
theorem see_13 {q r : Nat} (hq : q < 1189) (hr : r < 148) : jv (d + 1) 72 0 [some (.ref 13), some (.int (nI q)), some (.int (nI r)), some (.ref 1)] [] (shC, I, L, pX pa pb pu pw) = some (some (.int (if I 15 q = 0 then I 2 q else I 14 q)), (shC, j_up I 16 r 1, L, pX pa pb pu pw)) := by
  rw [B72_0_o13, if_neg (nI_pos (by omega)), if_pos (show nI q < (1189 : Int32) from nI_lt hq (by decide)), if_neg (nI_pos (by omega)), if_pos (show nI r < (148 : Int32) from nI_lt hr (by decide)), if_pos (j_in_nI hr (by decide)), if_pos (j_in_nI hq (by decide)), nI_clamp (by omega), nI_clamp (by omega), ny1, j_up_cell _ (by decide), j_up_cell _ (by decide)]
  by_cases h : I 15 q = 0
  · rw [if_pos h, if_pos h, g_at_m1 hq, j_up_cell _ (by decide)]
    dsimp only [Option.toList_some, List.cons_append, List.nil_append]
    rw [B72_54_o13]
  · rw [if_neg h, if_neg h, if_pos (j_in_nI hq (by decide)), B72_54_o13]
theorem g_see_13 {q r : Nat} (hq : q < 1189) (hr : r < 148) : jgo jTT jMM (d + 2) 72 [.ref 13, .int (nI q), .int (nI r), .ref 1] (shC, I, L, pX pa pb pu pw) K = K (some (.int (if I 15 q = 0 then I 2 q else I 14 q))) (shC, j_up I 16 r 1, L, pX pa pb pu pw) := jgo_some rfl (see_13 hq hr)
/-- the rows of its own that have changed since -/
def cl13 (I : Nat → Nat → Int32) (r : Nat) : Prop := 0 < I 16 r + I 17 r ∧ I 13 1 < I 25 r
theorem clash_to_13 {n : Nat} (hn : n ≤ 148) (h : ∀ r, r < n → ¬ cl13 I r) (o2 : Option Value) : jv d 73 0 [some (.ref 13), some (.ref 25), o2] [] (shC, I, L, pX pa pb pu pw) = jv d 73 2 [some (.ref 13), some (.ref 25), some (.int (nI n))] [] (shC, I, L, pX pa pb pu pw) := by
  rw [B73_0_o13]
  refine j_run (fun i => jv d 73 2 [some (.ref 13), some (.ref 25), some (.int (nI i))] [] (shC, I, L, pX pa pb pu pw)) n (fun i hi => ?_)
  show jv d 73 2 _ _ _ = jv d 73 2 _ _ _
  have hi' : i < 148 := by omega
  have hs : nI i < (148 : Int32) := nI_lt hi' (by decide)
  rw [B73_2_o13, if_pos hs, if_pos hs, if_pos (j_in_nI hi' (by decide)), if_pos (j_in_nI hi' (by decide)), nI_clamp (by omega)]
  by_cases h1 : 0 < I 16 i + I 17 i
  · rw [if_pos h1, if_pos (j_in_nI hi' (by decide))]
    by_cases h2 : I 13 1 < I 25 i
    · exact absurd ⟨h1, h2⟩ (h i hi)
    · rw [if_neg h2, B73_43_o13, nI_1]
  · rw [if_neg h1, B73_43_o13, nI_1]
theorem clash_at_13 {n : Nat} (hn : n < 148) (h : ∀ r, r < n → ¬ cl13 I r) (hc : cl13 I n) (o2 : Option Value) : jv d 73 0 [some (.ref 13), some (.ref 25), o2] [] (shC, I, L, pX pa pb pu pw) = some (some (.int (nI n)), (shC, I, L, pX pa pb pu pw)) := by
  have hs : nI n < (148 : Int32) := nI_lt hn (by decide)
  rw [clash_to_13 (by omega) h, B73_2_o13, if_pos hs, if_pos hs, if_pos (j_in_nI hn (by decide)), if_pos (j_in_nI hn (by decide)), nI_clamp (by omega), if_pos hc.1, if_pos (j_in_nI hn (by decide)), if_pos hc.2]
theorem clash_no_13 (h : ∀ r, r < 148 → ¬ cl13 I r) (o2 : Option Value) : jv d 73 0 [some (.ref 13), some (.ref 25), o2] [] (shC, I, L, pX pa pb pu pw) = some (some (.int (-1)), (shC, I, L, pX pa pb pu pw)) := by
  rw [clash_to_13 (Nat.le_refl 148) h, B73_2_o13, if_neg (by decide), B73_49_o13]
/-- its values laid over the trial model, the first n -/
def lyf13 (I : Nat → Nat → Int32) (n : Nat) : Nat → Int32 := fun q => if q < n then (if I 15 q = 0 then I 4 q else I 14 q) else I 4 q
theorem lay_13 (o2 : Option Value) : jv (d + 1) 74 0 [some (.ref 13), some (.ref 3), o2] [] (shC, I, L, pX pa pb pu pw) = some (none, (shC, va_up I 4 (lyf13 I 1189), L, pX pa pb pu pw)) := by
  rw [B74_0_o13]
  have h := j_run (fun i => jv (d + 1) 74 2 [some (.ref 13), some (.ref 3), some (.int (nI i))] [] (shC, va_up I 4 (lyf13 I i), L, pX pa pb pu pw)) 1189 (fun i hi => by
    show jv (d + 1) 74 2 _ _ _ = jv (d + 1) 74 2 _ _ _
    have hs : nI i < (1189 : Int32) := nI_lt hi (by decide)
    rw [B74_2_o13, if_pos hs, if_pos (j_in_nI hi (by decide)), nI_clamp (by omega), va_up_ne _ _ (show (15 : Nat) ≠ 4 by decide)]
    by_cases h1 : I 15 i = 0
    · rw [if_pos h1, B74_29_o13, nI_1]
      have e : lyf13 I i = lyf13 I (i + 1) := by
        funext q
        unfold lyf13
        by_cases hq : q = i
        · subst hq
          rw [if_neg (Nat.lt_irrefl q), if_pos (Nat.lt_succ_self q), if_pos h1]
        · by_cases h2 : q < i
          · rw [if_pos h2, if_pos (show q < i + 1 by omega)]
          · rw [if_neg h2, if_neg (show ¬ q < i + 1 by omega)]
      rw [e]
    · rw [if_neg h1, if_pos (j_in_nI hi (by decide)), va_up_ne _ _ (show (14 : Nat) ≠ 4 by decide), g_set_m3 hi]
      dsimp only [Option.toList_none, List.nil_append]
      rw [B74_29_o13, nI_1, j_up_va_self]
      have e : va_up (lyf13 I i) i (I 14 i) = lyf13 I (i + 1) := by
        funext q
        simp only [va_up, lyf13]
        by_cases hq : q = i
        · subst hq
          rw [if_pos rfl, if_pos (Nat.lt_succ_self q), if_neg h1]
        · rw [if_neg hq]
          by_cases h2 : q < i
          · rw [if_pos h2, if_pos (show q < i + 1 by omega)]
          · rw [if_neg h2, if_neg (show ¬ q < i + 1 by omega)]
      rw [e])
  refine Eq.trans ?_ (h.trans ?_)
  · show _ = jv (d + 1) 74 2 [some (.ref 13), some (.ref 3), some (.int (nI 0))] [] (shC, va_up I 4 (lyf13 I 0), L, pX pa pb pu pw)
    have e : lyf13 I 0 = I 4 := by
      funext q
      unfold lyf13
      rw [if_neg (Nat.not_lt_zero q)]
    rw [e, va_up_same]
    rfl
  · show jv (d + 1) 74 2 [some (.ref 13), some (.ref 3), some (.int (nI 1189))] [] (shC, va_up I 4 (lyf13 I 1189), L, pX pa pb pu pw) = _
    rw [B74_2_o13, if_neg (by decide)]
theorem rows_13 (o1 o2 : Option Value) : jv d 75 0 [some (.ref 13), o1, o2] [] (shC, I, L, pX pa pb pu pw) = some (some (.int (l_sm (I 17) 148)), (shC, I, L, pX pa pb pu pw)) := by
  rw [B75_0_o13]
  have h := j_run (fun i => jv d 75 4 [some (.ref 13), some (.int (l_sm (I 17) i)), some (.int (nI i))] [] (shC, I, L, pX pa pb pu pw)) 148 (fun i hi => by
    show jv d 75 4 _ _ _ = jv d 75 4 _ _ _
    rw [B75_4_o13, if_pos (show nI i < (148 : Int32) from nI_lt hi (by decide)), if_pos (j_in_nI hi (by decide)), nI_clamp (by omega), nI_1]
    rfl)
  refine h.trans ?_
  show jv d 75 4 [some (.ref 13), some (.int (l_sm (I 17) 148)), some (.int (nI 148))] [] (shC, I, L, pX pa pb pu pw) = _
  rw [B75_4_o13, if_neg (by decide)]
/-! the person at 18 -/
def bgI18 (I : Nat → Nat → Int32) (c : Int32) : Nat → Nat → Int32 := va_up (va_up (va_up (j_up (j_up I 18 0 1) 18 1 c) 20 (j_fill (I 20) (fun _ => 0) 1189)) 21 (j_fill (I 21) (fun _ => 0) 148)) 22 (j_fill (I 22) (fun _ => 0) 148)
theorem begin_18 (c : Int32) : jv (d + 1) 70 0 [some (.ref 18), some (.int c)] [] (shC, I, L, pX pa pb pu pw) = some (none, (shC, bgI18 I c, L, pX pa pb pu pw)) := by
  rw [B70_0_o18, if_pos nb1, g_fill_b (n := 1189) rfl (by decide)]
  dsimp only [Option.toList_none, List.nil_append]
  rw [B70_18_o18, g_fill_b (n := 148) rfl (by decide)]
  dsimp only [Option.toList_none, List.nil_append]
  rw [B70_26_o18, g_fill_b (n := 148) rfl (by decide)]
  dsimp only [Option.toList_none, List.nil_append]
  rw [B70_34_o18]
  rfl
def stI18 (I : Nat → Nat → Int32) (q r : Nat) (v : Int32) : Nat → Nat → Int32 := j_up (j_up (j_up I 19 q v) 20 q 1) 22 r 1
theorem set_18 {q r : Nat} (hq : q < 1189) (hr : r < 148) (v : Int32) : jv d 71 0 [some (.ref 18), some (.int (nI q)), some (.int (nI r)), some (.int v)] [] (shC, I, L, pX pa pb pu pw) = some (none, (shC, stI18 I q r v, L, pX pa pb pu pw)) := by
  rw [B71_0_o18, if_neg (nI_pos (by omega)), if_pos (show nI q < (1189 : Int32) from nI_lt hq (by decide)), if_neg (nI_pos (by omega)), if_pos (show nI r < (148 : Int32) from nI_lt hr (by decide)), if_pos (j_in_nI hq (by decide)), if_pos (j_in_nI hq (by decide)), if_pos (j_in_nI hr (by decide)), nI_clamp (by omega), nI_clamp (by omega), ny1]
  rfl
theorem g_set_18 {q r : Nat} (hq : q < 1189) (hr : r < 148) (v : Int32) : jgo jTT jMM (d + 1) 71 [.ref 18, .int (nI q), .int (nI r), .int v] (shC, I, L, pX pa pb pu pw) K = K none (shC, stI18 I q r v, L, pX pa pb pu pw) := jgo_some rfl (set_18 hq hr v)
theorem see_18 {q r : Nat} (hq : q < 1189) (hr : r < 148) : jv (d + 1) 72 0 [some (.ref 18), some (.int (nI q)), some (.int (nI r)), some (.ref 1)] [] (shC, I, L, pX pa pb pu pw) = some (some (.int (if I 20 q = 0 then I 2 q else I 19 q)), (shC, j_up I 21 r 1, L, pX pa pb pu pw)) := by
  rw [B72_0_o18, if_neg (nI_pos (by omega)), if_pos (show nI q < (1189 : Int32) from nI_lt hq (by decide)), if_neg (nI_pos (by omega)), if_pos (show nI r < (148 : Int32) from nI_lt hr (by decide)), if_pos (j_in_nI hr (by decide)), if_pos (j_in_nI hq (by decide)), nI_clamp (by omega), nI_clamp (by omega), ny1, j_up_cell _ (by decide), j_up_cell _ (by decide)]
  by_cases h : I 20 q = 0
  · rw [if_pos h, if_pos h, g_at_m1 hq, j_up_cell _ (by decide)]
    dsimp only [Option.toList_some, List.cons_append, List.nil_append]
    rw [B72_54_o18]
  · rw [if_neg h, if_neg h, if_pos (j_in_nI hq (by decide)), B72_54_o18]
theorem g_see_18 {q r : Nat} (hq : q < 1189) (hr : r < 148) : jgo jTT jMM (d + 2) 72 [.ref 18, .int (nI q), .int (nI r), .ref 1] (shC, I, L, pX pa pb pu pw) K = K (some (.int (if I 20 q = 0 then I 2 q else I 19 q))) (shC, j_up I 21 r 1, L, pX pa pb pu pw) := jgo_some rfl (see_18 hq hr)
/-- the rows of its own that have changed since -/
def cl18 (I : Nat → Nat → Int32) (r : Nat) : Prop := 0 < I 21 r + I 22 r ∧ I 18 1 < I 25 r
theorem clash_to_18 {n : Nat} (hn : n ≤ 148) (h : ∀ r, r < n → ¬ cl18 I r) (o2 : Option Value) : jv d 73 0 [some (.ref 18), some (.ref 25), o2] [] (shC, I, L, pX pa pb pu pw) = jv d 73 2 [some (.ref 18), some (.ref 25), some (.int (nI n))] [] (shC, I, L, pX pa pb pu pw) := by
  rw [B73_0_o18]
  refine j_run (fun i => jv d 73 2 [some (.ref 18), some (.ref 25), some (.int (nI i))] [] (shC, I, L, pX pa pb pu pw)) n (fun i hi => ?_)
  show jv d 73 2 _ _ _ = jv d 73 2 _ _ _
  have hi' : i < 148 := by omega
  have hs : nI i < (148 : Int32) := nI_lt hi' (by decide)
  rw [B73_2_o18, if_pos hs, if_pos hs, if_pos (j_in_nI hi' (by decide)), if_pos (j_in_nI hi' (by decide)), nI_clamp (by omega)]
  by_cases h1 : 0 < I 21 i + I 22 i
  · rw [if_pos h1, if_pos (j_in_nI hi' (by decide))]
    by_cases h2 : I 18 1 < I 25 i
    · exact absurd ⟨h1, h2⟩ (h i hi)
    · rw [if_neg h2, B73_43_o18, nI_1]
  · rw [if_neg h1, B73_43_o18, nI_1]
theorem clash_at_18 {n : Nat} (hn : n < 148) (h : ∀ r, r < n → ¬ cl18 I r) (hc : cl18 I n) (o2 : Option Value) : jv d 73 0 [some (.ref 18), some (.ref 25), o2] [] (shC, I, L, pX pa pb pu pw) = some (some (.int (nI n)), (shC, I, L, pX pa pb pu pw)) := by
  have hs : nI n < (148 : Int32) := nI_lt hn (by decide)
  rw [clash_to_18 (by omega) h, B73_2_o18, if_pos hs, if_pos hs, if_pos (j_in_nI hn (by decide)), if_pos (j_in_nI hn (by decide)), nI_clamp (by omega), if_pos hc.1, if_pos (j_in_nI hn (by decide)), if_pos hc.2]
theorem clash_no_18 (h : ∀ r, r < 148 → ¬ cl18 I r) (o2 : Option Value) : jv d 73 0 [some (.ref 18), some (.ref 25), o2] [] (shC, I, L, pX pa pb pu pw) = some (some (.int (-1)), (shC, I, L, pX pa pb pu pw)) := by
  rw [clash_to_18 (Nat.le_refl 148) h, B73_2_o18, if_neg (by decide), B73_49_o18]
/-- its values laid over the trial model, the first n -/
def lyf18 (I : Nat → Nat → Int32) (n : Nat) : Nat → Int32 := fun q => if q < n then (if I 20 q = 0 then I 4 q else I 19 q) else I 4 q
theorem lay_18 (o2 : Option Value) : jv (d + 1) 74 0 [some (.ref 18), some (.ref 3), o2] [] (shC, I, L, pX pa pb pu pw) = some (none, (shC, va_up I 4 (lyf18 I 1189), L, pX pa pb pu pw)) := by
  rw [B74_0_o18]
  have h := j_run (fun i => jv (d + 1) 74 2 [some (.ref 18), some (.ref 3), some (.int (nI i))] [] (shC, va_up I 4 (lyf18 I i), L, pX pa pb pu pw)) 1189 (fun i hi => by
    show jv (d + 1) 74 2 _ _ _ = jv (d + 1) 74 2 _ _ _
    have hs : nI i < (1189 : Int32) := nI_lt hi (by decide)
    rw [B74_2_o18, if_pos hs, if_pos (j_in_nI hi (by decide)), nI_clamp (by omega), va_up_ne _ _ (show (20 : Nat) ≠ 4 by decide)]
    by_cases h1 : I 20 i = 0
    · rw [if_pos h1, B74_29_o18, nI_1]
      have e : lyf18 I i = lyf18 I (i + 1) := by
        funext q
        unfold lyf18
        by_cases hq : q = i
        · subst hq
          rw [if_neg (Nat.lt_irrefl q), if_pos (Nat.lt_succ_self q), if_pos h1]
        · by_cases h2 : q < i
          · rw [if_pos h2, if_pos (show q < i + 1 by omega)]
          · rw [if_neg h2, if_neg (show ¬ q < i + 1 by omega)]
      rw [e]
    · rw [if_neg h1, if_pos (j_in_nI hi (by decide)), va_up_ne _ _ (show (19 : Nat) ≠ 4 by decide), g_set_m3 hi]
      dsimp only [Option.toList_none, List.nil_append]
      rw [B74_29_o18, nI_1, j_up_va_self]
      have e : va_up (lyf18 I i) i (I 19 i) = lyf18 I (i + 1) := by
        funext q
        simp only [va_up, lyf18]
        by_cases hq : q = i
        · subst hq
          rw [if_pos rfl, if_pos (Nat.lt_succ_self q), if_neg h1]
        · rw [if_neg hq]
          by_cases h2 : q < i
          · rw [if_pos h2, if_pos (show q < i + 1 by omega)]
          · rw [if_neg h2, if_neg (show ¬ q < i + 1 by omega)]
      rw [e])
  refine Eq.trans ?_ (h.trans ?_)
  · show _ = jv (d + 1) 74 2 [some (.ref 18), some (.ref 3), some (.int (nI 0))] [] (shC, va_up I 4 (lyf18 I 0), L, pX pa pb pu pw)
    have e : lyf18 I 0 = I 4 := by
      funext q
      unfold lyf18
      rw [if_neg (Nat.not_lt_zero q)]
    rw [e, va_up_same]
    rfl
  · show jv (d + 1) 74 2 [some (.ref 18), some (.ref 3), some (.int (nI 1189))] [] (shC, va_up I 4 (lyf18 I 1189), L, pX pa pb pu pw) = _
    rw [B74_2_o18, if_neg (by decide)]
theorem rows_18 (o1 o2 : Option Value) : jv d 75 0 [some (.ref 18), o1, o2] [] (shC, I, L, pX pa pb pu pw) = some (some (.int (l_sm (I 22) 148)), (shC, I, L, pX pa pb pu pw)) := by
  rw [B75_0_o18]
  have h := j_run (fun i => jv d 75 4 [some (.ref 18), some (.int (l_sm (I 22) i)), some (.int (nI i))] [] (shC, I, L, pX pa pb pu pw)) 148 (fun i hi => by
    show jv d 75 4 _ _ _ = jv d 75 4 _ _ _
    rw [B75_4_o18, if_pos (show nI i < (148 : Int32) from nI_lt hi (by decide)), if_pos (j_in_nI hi (by decide)), nI_clamp (by omega), nI_1]
    rfl)
  refine h.trans ?_
  show jv d 75 4 [some (.ref 18), some (.int (l_sm (I 22) 148)), some (.int (nI 148))] [] (shC, I, L, pX pa pb pu pw) = _
  rw [B75_4_o18, if_neg (by decide)]
end MODEL
