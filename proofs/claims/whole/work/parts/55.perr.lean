/-! A PERSON IN THE REFERENCE: end, set; as rows of numbers -/
/-- n cells from a on are 0 -/
def j_clr (f : Nat → Int32) (a n : Nat) : Nat → Int32 := fun j => if a ≤ j ∧ j < a + n then 0 else f j
theorem j_clr_0 (f : Nat → Int32) (a : Nat) : j_clr f a 0 = f := by
  funext j
  unfold j_clr
  rw [if_neg (by omega)]
theorem j_clr_s (f : Nat → Int32) (a n : Nat) : va_up (j_clr f a n) (a + n) 0 = j_clr f a (n + 1) := by
  funext j
  unfold va_up j_clr
  by_cases h : j = a + n
  · rw [if_pos h, if_pos (by omega)]
  · rw [if_neg h]
    by_cases h2 : a ≤ j ∧ j < a + n
    · rw [if_pos h2, if_pos (by omega)]
    · rw [if_neg h2, if_neg (by omega)]
theorem va_up_id {α : Type} (f : Nat → α) (a : Nat) : va_up f a (f a) = f := by
  funext b
  by_cases hb : b = a
  · rw [hb, va_up_self]
  · rw [va_up_ne _ _ hb]
def endJ (p : Nat) (J : Nat → Nat → Int32) : Nat → Nat → Int32 := va_up (va_up (va_up (j_up J 9 p 0) 11 (j_clr (J 11) (p * 148) 148)) 12 (j_clr (J 12) (p * 148) 148)) 13 (j_clr (J 13) (p * 1189) 1189)
def setJ (p q r : Nat) (v : Int32) (J : Nat → Nat → Int32) : Nat → Nat → Int32 := j_up (j_up (j_up (j_up J 13 (p * 1189 + q) 1) 14 (p * 1189 + q) v) 11 (p * 148 + r) 1) 12 (p * 148 + r) 1
section PERR
variable {d : Nat} {J : Nat → Nat → Int32} {L : Nat → Nat → Int64} {K : Option Value → jS → jO}
theorem end_r {p : Nat} (hp : p < 3) (o2 : Option Value) : jv d 221 0 [some (.ref 0), some (.int (nI p)), o2] [] (shR, J, L, pR) = some (none, (shR, endJ p J, L, pR)) := by
  rw [B221_0, if_pos (j_in_nI hp (by decide)), nI_clamp (n := p) (by omega), nb0]
  have h1 := j_run (fun i => jv d 221 9 [some (.ref 0), some (.int (nI p)), some (.int (nI i))] [] (shR, va_up (va_up (j_up J 9 p 0) 11 (j_clr (J 11) (p * 148) i)) 12 (j_clr (J 12) (p * 148) i), L, pR)) 148 (fun i hi => by
    show jv d 221 9 _ _ _ = jv d 221 9 _ _ _
    have hx : j_in (nI (p * 148 + i)) 444 = true := j_in_nI (by omega) (by decide)
    rw [B221_9, if_pos (show nI i < (148 : Int32) from nI_lt hi (by decide)), show nI p * 148 + nI i = nI (p * 148 + i) from by rw [show (148 : Int32) = nI 148 from rfl, nI_mul, nI_add], if_pos hx, if_pos hx, nI_clamp (by omega), nb0, nI_1]
    unfold j_up
    rw [va_up_ne _ _ (show (11 : Nat) ≠ 12 by decide), va_up_self, j_clr_s, va_up_ne _ _ (show (12 : Nat) ≠ 11 by decide), va_up_self, j_clr_s, va_up_comm _ (show (12 : Nat) ≠ 11 by decide), va_up_up, va_up_up])
  have e1 : va_up (va_up (j_up J 9 p 0) 11 (j_clr (J 11) (p * 148) 0)) 12 (j_clr (J 12) (p * 148) 0) = j_up J 9 p 0 := by
    rw [j_clr_0, j_clr_0, ← j_up_cell J (show (11 : Nat) ≠ 9 by decide) p 0, va_up_id, ← j_up_cell J (show (12 : Nat) ≠ 9 by decide) p 0, va_up_id]
  rw [e1] at h1
  refine Eq.trans h1 ?_
  rw [B221_9, if_neg (by decide)]
  have h2 := j_run (fun i => jv d 221 50 [some (.ref 0), some (.int (nI p)), some (.int (nI i))] [] (shR, va_up (va_up (va_up (j_up J 9 p 0) 11 (j_clr (J 11) (p * 148) 148)) 12 (j_clr (J 12) (p * 148) 148)) 13 (j_clr (J 13) (p * 1189) i), L, pR)) 1189 (fun i hi => by
    show jv d 221 50 _ _ _ = jv d 221 50 _ _ _
    rw [B221_50, if_pos (show nI i < (1189 : Int32) from nI_lt hi (by decide)), show nI p * 1189 + nI i = nI (p * 1189 + i) from by rw [show (1189 : Int32) = nI 1189 from rfl, nI_mul, nI_add], if_pos (j_in_nI (by omega) (by decide)), nI_clamp (by omega), nb0, nI_1]
    unfold j_up
    rw [va_up_self, j_clr_s, va_up_up])
  have e2 : va_up (va_up (va_up (j_up J 9 p 0) 11 (j_clr (J 11) (p * 148) 148)) 12 (j_clr (J 12) (p * 148) 148)) 13 (j_clr (J 13) (p * 1189) 0) = va_up (va_up (j_up J 9 p 0) 11 (j_clr (J 11) (p * 148) 148)) 12 (j_clr (J 12) (p * 148) 148) := by
    rw [j_clr_0]
    have e3 : J 13 = va_up (va_up (j_up J 9 p 0) 11 (j_clr (J 11) (p * 148) 148)) 12 (j_clr (J 12) (p * 148) 148) 13 := by rw [va_up_ne _ _ (by decide), va_up_ne _ _ (by decide), j_up_cell _ (by decide)]
    rw [e3]
    exact va_up_id _ 13
  rw [e2] at h2
  refine Eq.trans h2 ?_
  rw [B221_50, if_neg (by decide)]
  rfl
theorem g_end_r {p : Nat} (hp : p < 3) : jgo jTT jMM (d + 1) 221 [.ref 0, .int (nI p)] (shR, J, L, pR) K = K none (shR, endJ p J, L, pR) := jgo_some rfl (end_r hp none)
theorem set_r (hc : rCst J) {p q : Nat} (hp : p < 3) (hq : q < 1189) (hr : rowN.getD q 0 < 148) (v : Int32) : jv d 222 0 [some (.ref 0), some (.int (nI p)), some (.int (nI q)), some (.int v)] [] (shR, J, L, pR) = some (none, (shR, setJ p q (rowN.getD q 0) v J, L, pR)) := by
  have e5 := hc.2.2.2.2 q hq
  have a1 : nI p * 1189 + nI q = nI (p * 1189 + q) := by rw [show (1189 : Int32) = nI 1189 from rfl, nI_mul, nI_add]
  have a2 : nI p * 148 + nI (rowN.getD q 0) = nI (p * 148 + rowN.getD q 0) := by rw [show (148 : Int32) = nI 148 from rfl, nI_mul, nI_add]
  have x1 : j_in (nI (p * 1189 + q)) 3567 = true := j_in_nI (by omega) (by decide)
  have x2 : j_in (nI q) 1189 = true := j_in_nI hq (by decide)
  have x3 : j_in (nI (p * 148 + rowN.getD q 0)) 444 = true := j_in_nI (by omega) (by decide)
  rw [B222_0, a1, if_pos x1, if_pos x1, if_pos x2, nI_clamp (n := p * 1189 + q) (by omega), nI_clamp (n := q) (by omega), nb1, j_up_cell (j_up J 13 (p * 1189 + q) 1) (show (5 : Nat) ≠ 14 by decide), j_up_cell J (show (5 : Nat) ≠ 13 by decide), e5, a2, if_pos x3, if_pos x2, nI_clamp (n := p * 148 + rowN.getD q 0) (by omega), j_up_cell (j_up (j_up J 13 (p * 1189 + q) 1) 14 (p * 1189 + q) v) (show (5 : Nat) ≠ 11 by decide), j_up_cell (j_up J 13 (p * 1189 + q) 1) (show (5 : Nat) ≠ 14 by decide), j_up_cell J (show (5 : Nat) ≠ 13 by decide), e5, a2, if_pos x3, nI_clamp (n := p * 148 + rowN.getD q 0) (by omega)]
  rfl
end PERR
