/-! THE REFERENCE'S end, listPieces and nest where there is nothing -/
/-- n cells from a on are 0 -/
def clr (f : Nat → Int32) (a n : Nat) : Nat → Int32 := fun j => if a ≤ j ∧ j < a + n then 0 else f j
theorem clr_0 (f : Nat → Int32) (a : Nat) : clr f a 0 = f := by
  funext j
  unfold clr
  rw [if_neg (by omega)]
theorem clr_s (f : Nat → Int32) (a n : Nat) : va_up (clr f a n) (a + n) 0 = clr f a (n + 1) := by
  funext j
  simp only [va_up, clr]
  by_cases h : j = a + n
  · subst h
    rw [if_pos rfl, if_pos (by omega)]
  · rw [if_neg h]
    by_cases h2 : a ≤ j ∧ j < a + n
    · rw [if_pos h2, if_pos (by omega)]
    · rw [if_neg h2, if_neg (by omega)]
def endI (I : Nat → Nat → Int32) (p : Nat) : Nat → Nat → Int32 := va_up (va_up (va_up (j_up I 9 p 0) 11 (clr (I 11) (p * 148) 148)) 12 (clr (I 12) (p * 148) 148)) 13 (clr (I 13) (p * 1189) 1189)
section END
variable {d : Nat} {I : Nat → Nat → Int32} {L : Nat → Nat → Int64} {K : Option Value → jS → jO}
theorem end_r {p : Nat} (hp : p < 3) (o2 : Option Value) : jv d 221 0 [some (.ref 0), some (.int (nI p)), o2] [] (shR, I, L, pR) = some (none, (shR, endI I p, L, pR)) := by
  rw [B221_0, if_pos (j_in_nI hp (by decide)), nI_clamp (by omega), nb0]
  have e9 : ∀ b, b ≠ 9 → j_up I 9 p 0 b = I b := fun b hb => by
    unfold j_up
    rw [va_up_ne _ _ hb]
  have e11 := e9 11 (by decide)
  have e12 := e9 12 (by decide)
  have e13 := e9 13 (by decide)
  generalize hJ : j_up I 9 p 0 = J at e11 e12 e13
  have h1 := j_run (fun i => jv d 221 9 [some (.ref 0), some (.int (nI p)), some (.int (nI i))] [] (shR, va_up (va_up J 11 (clr (I 11) (p * 148) i)) 12 (clr (I 12) (p * 148) i), L, pR)) 148 (fun i hi => by
    show jv d 221 9 _ _ _ = jv d 221 9 _ _ _
    have hk : p * 148 + i < 444 := by omega
    rw [B221_9, if_pos (show nI i < (148 : Int32) from nI_lt hi (by decide)), show nI p * 148 + nI i = nI (p * 148 + i) from by rw [← nI_add, ← nI_mul]; rfl, if_pos (j_in_nI hk (by decide)), if_pos (j_in_nI hk (by decide)), nI_clamp (by omega), nb0, j_up_va_ne _ (by decide), j_up_va_self, j_up_va_self, clr_s, clr_s, nI_1])
  have h1' : jv d 221 9 [some (.ref 0), some (.int (nI p)), some (.int 0)] [] (shR, J, L, pR) = jv d 221 9 [some (.ref 0), some (.int (nI p)), some (.int (nI 148))] [] (shR, va_up (va_up J 11 (clr (I 11) (p * 148) 148)) 12 (clr (I 12) (p * 148) 148), L, pR) := by
    refine Eq.trans ?_ h1
    show _ = jv d 221 9 [some (.ref 0), some (.int (nI p)), some (.int (nI 0))] [] (shR, va_up (va_up J 11 (clr (I 11) (p * 148) 0)) 12 (clr (I 12) (p * 148) 0), L, pR)
    rw [clr_0, clr_0, ← e11, va_up_same, ← e12, va_up_same]
    rfl
  rw [h1', B221_9, if_neg (by decide)]
  have e13' : va_up (va_up J 11 (clr (I 11) (p * 148) 148)) 12 (clr (I 12) (p * 148) 148) 13 = I 13 := by
    rw [va_up_ne _ _ (by decide), va_up_ne _ _ (by decide), e13]
  unfold endI
  rw [hJ]
  generalize va_up (va_up J 11 (clr (I 11) (p * 148) 148)) 12 (clr (I 12) (p * 148) 148) = X at e13'
  have h2 := j_run (fun i => jv d 221 50 [some (.ref 0), some (.int (nI p)), some (.int (nI i))] [] (shR, va_up X 13 (clr (I 13) (p * 1189) i), L, pR)) 1189 (fun i hi => by
    show jv d 221 50 _ _ _ = jv d 221 50 _ _ _
    have hk : p * 1189 + i < 3567 := by omega
    rw [B221_50, if_pos (show nI i < (1189 : Int32) from nI_lt hi (by decide)), show nI p * 1189 + nI i = nI (p * 1189 + i) from by rw [← nI_add, ← nI_mul]; rfl, if_pos (j_in_nI hk (by decide)), nI_clamp (by omega), nb0, j_up_va_self, clr_s, nI_1])
  have h2' : jv d 221 50 [some (.ref 0), some (.int (nI p)), some (.int 0)] [] (shR, X, L, pR) = jv d 221 50 [some (.ref 0), some (.int (nI p)), some (.int (nI 1189))] [] (shR, va_up X 13 (clr (I 13) (p * 1189) 1189), L, pR) := by
    refine Eq.trans ?_ h2
    show _ = jv d 221 50 [some (.ref 0), some (.int (nI p)), some (.int (nI 0))] [] (shR, va_up X 13 (clr (I 13) (p * 1189) 0), L, pR)
    rw [clr_0, ← e13', va_up_same]
    rfl
  rw [h2', B221_50, if_neg (by decide)]
theorem endI_0 (p j : Nat) : endI I p 0 j = I 0 j := by
  unfold endI j_up
  rw [va_up_ne _ _ (by decide), va_up_ne _ _ (by decide), va_up_ne _ _ (by decide), va_up_ne _ _ (by decide)]
end END
theorem kp_open (j : Nat) (hj : j < 3) : ∃ v : Int32, jEnds 168 [.int (nI j)] SC0 (.int v) ∧ jEnds 220 [.int (nI j)] SR0 (.int v) := by
  refine ⟨0, oI_ends rfl (kc_open j hj), ?_⟩
  have hper : perv (nI j) = 1 := by
    match j, hj with
    | 0, _ => decide
    | 1, _ => decide
    | 2, _ => decide
  have h : ∀ d, jv (d + 6) 220 0 [some (.ref 0), some (.int (nI j))] [] SR0 = some (some (.int 0), (shR, (j_up (j_up (endI rI0 j) 9 j 1) 10 j ((j_up (endI rI0 j) 9 j 1) 0 15)), (fun _ _ => 0), pR)) := by
    intro d
    have g : ∀ K, jgo jTT jMM (d + 6) 221 [.ref 0, .int (nI j)] (shR, rI0, (fun _ _ => 0), pR) K = K none (shR, endI rI0 j, (fun _ _ => 0), pR) := fun K => jgo_some rfl (end_r hj none)
    show jv (d + 6) 220 0 [some (.ref 0), some (.int (nI j))] [] (shR, rI0, (fun _ _ => 0), pR) = _
    rw [B220_0, g_per_r, hper]
    dsimp only [Option.toList_some, List.cons_append, List.nil_append]
    rw [B220_4, if_neg (by decide), if_pos fr_0_18, if_pos (j_in_nI hj (by decide)), if_pos (fr_9 _), g]
    dsimp only [Option.toList_none, List.nil_append]
    rw [B220_36, if_pos (j_in_nI hj (by decide)), if_pos (j_in_nI hj (by decide)), nI_clamp (by omega), nb1]
    have e : (j_up (j_up (endI rI0 j) 9 j 1) 10 j ((j_up (endI rI0 j) 9 j 1) 0 15)) 0 15 = 0 := by
      rw [j_up_app, if_neg (by decide), j_up_app, if_neg (by decide), endI_0]
      rfl
    rw [e]
  exact ends_r rfl h
theorem kz_crash : ∃ v : Int32, jEnds 181 [.int 0] SC0 (.int v) ∧ jEnds 238 [.int 0] SR0 (.int v) := by
  refine ⟨0, oI_ends rfl kc_crash, ?_⟩
  have h : ∀ d, ∃ I, jv (d + 6) 238 0 [some (.ref 0), some (.int 0), none] [] SR0 = some (some (.int 0), (shR, I, (fun _ _ => 0), pR)) := by
    intro d
    have g : ∀ p, p < 3 → ∀ I K, jgo jTT jMM (d + 6) 221 [.ref 0, .int (nI p)] (shR, I, (fun _ _ => 0), pR) K = K none (shR, endI I p, (fun _ _ => 0), pR) := fun p hp I K => jgo_some rfl (end_r hp none)
    have gf : ∀ I K, jgo jTT jMM (d + 6) 249 [.ref 0] (shR, I, (fun _ _ => 0), pR) K = K none (shR, (j_up (j_up (j_up (j_up (j_up I 0 59 0) 0 87 0) 0 103 0) 0 107 0) 0 120 0), (fun _ _ => 0), pR) := fun I K => jgo_some rfl (by show jv (d + 5) 249 0 [some (.ref 0)] [] (shR, I, (fun _ _ => 0), pR) = _; simp only [B249_0, nb0, ↓reduceIte])
    refine ⟨j_up (j_up (j_up (j_up (j_up (endI (endI (endI (j_up (j_up rI0 0 17 ((0 : Int32) - 0)) 0 18 1) 0) 1) 2) 0 59 0) 0 87 0) 0 103 0) 0 107 0) 0 120 0, ?_⟩
    show jv (d + 6) 238 0 [some (.ref 0), some (.int 0), none] [] (shR, rI0, (fun _ _ => 0), pR) = _
    rw [B238_0, if_neg (by decide), fr_0_17, if_neg (by decide), if_pos fr_0_18, if_pos nb1]
    generalize hX : j_up (j_up rI0 0 17 ((0 : Int32) - 0)) 0 18 1 = X
    have hX17 : X 0 17 = 0 := by rw [← hX]; rfl
    rw [B238_41, if_pos (by decide), show (Value.int 0) = Value.int (nI 0) from rfl, g 0 (by decide)]
    dsimp only [Option.toList_none, List.nil_append]
    rw [B238_51, show nI 0 + 1 = nI 1 from rfl, B238_41, if_pos (by decide), g 1 (by decide)]
    dsimp only [Option.toList_none, List.nil_append]
    rw [B238_51, show nI 1 + 1 = nI 2 from rfl, B238_41, if_pos (by decide), g 2 (by decide)]
    dsimp only [Option.toList_none, List.nil_append]
    rw [B238_51, show nI 2 + 1 = nI 3 from rfl, B238_41, if_neg (by decide), gf]
    dsimp only [Option.toList_none, List.nil_append]
    rw [B238_61]
    have e : (j_up (j_up (j_up (j_up (j_up (endI (endI (endI X 0) 1) 2) 0 59 0) 0 87 0) 0 103 0) 0 107 0) 0 120 0) 0 17 = 0 := by
      simp only [j_up_app, if_true]
      rw [if_neg (by decide), if_neg (by decide), if_neg (by decide), if_neg (by decide), if_neg (by decide), endI_0, endI_0, endI_0, hX17]
    rw [e]
    rfl
  obtain ⟨I, hI⟩ := h 1894
  exact ⟨_, rfl, hI, rfl⟩
