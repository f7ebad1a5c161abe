/-! THE PERSONS OF BOTH, side by side -/
theorem row_lt {a b c : Nat} (ha : a < 13) (hb : b < rowsN.getD a 0) (hc : c < fieldsN.getD a 0) : rowN.getD (fpN.getD a 0 + b * fieldsN.getD a 0 + c) 0 = frN.getD a 0 + b ∧ frN.getD a 0 + b < 148 := by
  have h1 := tab_fp a ha
  have h2 := tab_place ha hb hc
  have h3 := tab_row a ha (b * fieldsN.getD a 0 + c) (by omega)
  have h4 : (b * fieldsN.getD a 0 + c) / fieldsN.getD a 0 = b := by
    rw [Nat.mul_comm, Nat.mul_add_div (by omega), Nat.div_eq_of_lt hc, Nat.add_zero]
  have h5 : ∀ t, t < 13 → frN.getD t 0 + rowsN.getD t 0 ≤ 148 := by decide +kernel
  rw [h4, ← Nat.add_assoc] at h3
  exact ⟨h3, by have := h5 a ha; omega⟩
theorem fp_mono : ∀ a, a < 13 → ∀ b, b < 13 → a < b → fpN.getD (a + 1) 0 ≤ fpN.getD b 0 := by decide +kernel
/-- a place has its numbers alone -/
theorem place_inj {a b c a' b' c' : Nat} (ha : a < 13) (hb : b < rowsN.getD a 0) (hc : c < fieldsN.getD a 0) (ha' : a' < 13) (hb' : b' < rowsN.getD a' 0) (hc' : c' < fieldsN.getD a' 0) (h : fpN.getD a 0 + b * fieldsN.getD a 0 + c = fpN.getD a' 0 + b' * fieldsN.getD a' 0 + c') : a = a' ∧ b = b' ∧ c = c' := by
  have h1 := tab_place ha hb hc
  have h2 := tab_place ha' hb' hc'
  have e : a = a' := by
    rcases Nat.lt_trichotomy a a' with z | z | z
    · have := fp_mono a ha a' ha' z; omega
    · exact z
    · have := fp_mono a' ha' a ha z; omega
  subst e
  have e2 : b * fieldsN.getD a 0 + c = b' * fieldsN.getD a 0 + c' := by omega
  have hf : 0 < fieldsN.getD a 0 := by omega
  have e3 := congrArg (· / fieldsN.getD a 0) e2
  have e4 := congrArg (· % fieldsN.getD a 0) e2
  simp only [Nat.mul_comm _ (fieldsN.getD a 0), Nat.mul_add_div hf, Nat.div_eq_of_lt hc, Nat.div_eq_of_lt hc', Nat.add_zero, Nat.mul_add_mod, Nat.mod_eq_of_lt hc, Nat.mod_eq_of_lt hc'] at e3 e4
  exact ⟨rfl, e3, e4⟩
/-- what may stand at a place -/
def okV (q : Nat) (v : Int32) : Prop := (∀ a b c, a < 12 → b < rowsN.getD a 0 → c < fieldsN.getD a 0 → q = fpN.getD a 0 + b * fieldsN.getD a 0 + c → mbv a c v = 1) ∧ (q = 888 → ∃ n : Nat, n ≤ 1200 ∧ v = nI n)
def i01 (x : Int32) : Prop := x = 0 ∨ x = 1
/-- a transaction, the person's cells from b on -/
def perIn (p b : Nat) (I J : Nat → Nat → Int32) : Prop := I b 1 = J 10 p ∧ (∀ q, q < 1189 → I (b + 2) q = J 13 (p * 1189 + q) ∧ i01 (I (b + 2) q) ∧ (I (b + 2) q = 1 → I (b + 1) q = J 14 (p * 1189 + q) ∧ okV q (I (b + 1) q))) ∧ ∀ r, r < 148 → I (b + 4) r = J 12 (p * 148 + r) ∧ i01 (I (b + 4) r) ∧ i01 (I (b + 3) r) ∧ J 11 (p * 148 + r) = if I (b + 3) r = 1 ∨ I (b + 4) r = 1 then 1 else 0
def perRel (p b : Nat) (I J : Nat → Nat → Int32) : Prop := I b 0 = J 9 p ∧ i01 (J 9 p) ∧ (J 9 p = 1 → perIn p b I J)
/-- nothing of it was changed -/
theorem perRel.eq {p b : Nat} {I J I' J' : Nat → Nat → Int32} (h : perRel p b I J) (hI : ∀ c, b ≤ c → c < b + 5 → I' c = I c) (h9 : J' 9 p = J 9 p) (h10 : J' 10 p = J 10 p) (h13 : ∀ q, q < 1189 → J' 13 (p * 1189 + q) = J 13 (p * 1189 + q) ∧ J' 14 (p * 1189 + q) = J 14 (p * 1189 + q)) (h11 : ∀ r, r < 148 → J' 11 (p * 148 + r) = J 11 (p * 148 + r) ∧ J' 12 (p * 148 + r) = J 12 (p * 148 + r)) : perRel p b I' J' := by
  obtain ⟨a1, a2, a3⟩ := h
  refine ⟨by rw [hI b (by omega) (by omega), h9]; exact a1, by rw [h9]; exact a2, fun hx => ?_⟩
  rw [h9] at hx
  obtain ⟨b1, b2, b3⟩ := a3 hx
  refine ⟨by rw [hI b (by omega) (by omega), h10]; exact b1, fun q hq => ?_, fun r hr => ?_⟩
  · rw [hI (b + 2) (by omega) (by omega), hI (b + 1) (by omega) (by omega), (h13 q hq).1, (h13 q hq).2]
    exact b2 q hq
  · rw [hI (b + 4) (by omega) (by omega), hI (b + 3) (by omega) (by omega), (h11 r hr).1, (h11 r hr).2]
    exact b3 r hr
/-- the three persons -/
def persRel (I J : Nat → Nat → Int32) : Prop := perRel 0 8 I J ∧ perRel 1 13 I J ∧ perRel 2 18 I J
theorem endJ_9 (p : Nat) (J : Nat → Nat → Int32) (c : Nat) : endJ p J 9 c = if c = p then 0 else J 9 c := by
  unfold endJ
  rw [va_up_ne _ _ (by decide), va_up_ne _ _ (by decide), va_up_ne _ _ (by decide), j_up_own]
theorem endJ_11 (p : Nat) (J : Nat → Nat → Int32) : endJ p J 11 = j_clr (J 11) (p * 148) 148 := by
  unfold endJ
  rw [va_up_ne _ _ (by decide), va_up_ne _ _ (by decide), va_up_self]
theorem endJ_12 (p : Nat) (J : Nat → Nat → Int32) : endJ p J 12 = j_clr (J 12) (p * 148) 148 := by
  unfold endJ
  rw [va_up_ne _ _ (by decide), va_up_self]
theorem endJ_13 (p : Nat) (J : Nat → Nat → Int32) : endJ p J 13 = j_clr (J 13) (p * 1189) 1189 := by
  unfold endJ
  rw [va_up_self]
theorem endJ_o (p : Nat) (J : Nat → Nat → Int32) {c : Nat} (h1 : c ≠ 9) (h2 : c ≠ 11) (h3 : c ≠ 12) (h4 : c ≠ 13) : endJ p J c = J c := by
  unfold endJ
  rw [va_up_ne _ _ h4, va_up_ne _ _ h3, va_up_ne _ _ h2, j_up_cell _ h1]
theorem clr_out {f : Nat → Int32} {a n j : Nat} (h : ¬ (a ≤ j ∧ j < a + n)) : j_clr f a n j = f j := by
  unfold j_clr
  rw [if_neg h]
theorem clr_in {f : Nat → Int32} {a n j : Nat} (h : a ≤ j ∧ j < a + n) : j_clr f a n j = 0 := by
  unfold j_clr
  rw [if_pos h]
/-- the end of p's transaction leaves the others' -/
theorem perRel.end_ne {p q b : Nat} {I J : Nat → Nat → Int32} (h : perRel q b I J) (hpq : p ≠ q) : perRel q b I (endJ p J) := by
  refine h.eq (fun _ _ _ => rfl) (by rw [endJ_9, if_neg (Ne.symm hpq)]) (by rw [endJ_o p J (by decide) (by decide) (by decide) (by decide)]) (fun i hi => ?_) (fun r hr => ?_)
  · rw [endJ_13, clr_out (by rcases Nat.lt_or_gt_of_ne hpq with z | z <;> omega), endJ_o p J (by decide) (by decide) (by decide) (by decide)]
    exact ⟨rfl, rfl⟩
  · rw [endJ_11, endJ_12, clr_out (by rcases Nat.lt_or_gt_of_ne hpq with z | z <;> omega), clr_out (by rcases Nat.lt_or_gt_of_ne hpq with z | z <;> omega)]
    exact ⟨rfl, rfl⟩
/-- no transaction -/
theorem perRel.none {p b : Nat} {I J : Nat → Nat → Int32} (h1 : I b 0 = 0) (h2 : J 9 p = 0) : perRel p b I J := ⟨by rw [h1, h2], Or.inl h2, fun q => absurd (h2.symm.trans q) (by decide)⟩
