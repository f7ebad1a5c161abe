/-! bars() and plan() as calls; the relation over each -/
section SECD
variable {d e : Nat} {I J : Nat → Nat → Int32} {L L' : Nat → Nat → Int64} {pa pb pu pw : Option Nat} {m : Nat → Int32}
theorem mK.rod (h : mK m I J) {k : Nat} (hk : k < 9) : ∃ x, x ≤ 4000 ∧ m (879 + k) = nI x := ok_m (h.2.2.1 (879 + k) (by omega)) (a := 11) (b := k) (c := 0) (N := 4000) (by decide) hk (by decide) (by show 879 + k = 879 + k * 1 + 0; omega) (by intro v hv; show v < 0; exact hv) rfl
theorem mK.bar (h : mK m I J) : ∃ B C, bMod0 B C (fun k => mNa m (879 + k)) I J := by
  obtain ⟨B, b1, b2⟩ := ok_m (h.2.2.1 2 (by omega)) (a := 0) (b := 0) (c := 2) (N := 4000) (by decide) (by decide) (by decide) rfl (by intro v hv; show v < 1; exact Int32.lt_trans hv (by decide)) rfl
  obtain ⟨C, c1, c2⟩ := ok_m (h.2.2.1 3 (by omega)) (a := 0) (b := 0) (c := 3) (N := 50) (by decide) (by decide) (by decide) rfl (by intro v hv; show v < 0; exact hv) rfl
  refine ⟨B, C, b1, c1, fun k hk => ?_, by rw [h.1 2 (by decide)]; exact b2, by rw [h.2.1 2 (by decide)]; exact b2, by rw [h.1 3 (by decide)]; exact c2, by rw [h.2.1 3 (by decide)]; exact c2, h.2.2.2.1⟩
  obtain ⟨x, x1, x2⟩ := h.rod hk
  have e1 : mNa m (879 + k) = x := mN_n x2 (by omega)
  show mNa m (879 + k) ≤ 4000 ∧ _ = nI (mNa m (879 + k)) ∧ _ = nI (mNa m (879 + k))
  rw [e1, h.1 _ (by omega), h.2.1 _ (by omega)]
  exact ⟨x1, x2, x2⟩
/-- bars() -/
theorem bars_call (h : mK m I J) (h0 : I 0 11 = J 0 18) : (∃ v, jv (d + 11) 206 0 [some (.ref 0)] [] (shC, I, L, pX pa pb pu pw) = some (some (.int v), (shC, I, L, pX pa pb pu pw)) ∧ jv (e + 10) 342 0 [some (.ref 0), none, none] [] (shR, J, L', pR) = some (some (.int v), (shR, J, L', pR))) ∨ ∃ v I' J', (∀ c, c ≠ 107 → c ≠ 108 → c ≠ 109 → c ≠ 116 → I' c = I c) ∧ (∀ f, f ≠ 0 → f ≠ 2 → I' 107 f = I 107 f) ∧ (∀ f, f ≠ 10 → I' 116 f = I 116 f) ∧ (∀ c, c ≠ 0 → c ≠ 60 → c ≠ 61 → J' c = J c) ∧ (∀ f, f ≠ 103 → f ≠ 104 → J' 0 f = J 0 f) ∧ I' 107 0 = 1 ∧ I' 116 10 = 0 ∧ J' 0 103 = 1 ∧ barRel (fun k => mNa m (879 + k)) I' J' ∧ jv (d + 11) 206 0 [some (.ref 0)] [] (shC, I, L, pX pa pb pu pw) = some (some (.int v), (shC, I', L, pX pa pb pu pw)) ∧ jv (e + 10) 342 0 [some (.ref 0), none, none] [] (shR, J, L', pR) = some (some (.int v), (shR, J', L', pR)) := by
  by_cases q : J 0 18 = 0
  case neg => exact Or.inl ⟨-3, by rw [B206_0, h0, if_neg q], by rw [B342_0, if_neg q]⟩
  obtain ⟨B, C, hM⟩ := h.bar
  obtain ⟨v, S, w, T, p1, p2, r, I', J', rfl, rfl, rfl, rfl, f1, f2, f3, f4, f5, f6, f7, f8, f9⟩ := bars_sim (d := d) (e := e) (L := L) (L' := L') (pa := pa) (pb := pb) (pu := pu) (pw := pw) hM (by rw [h0]; exact q) q
  exact Or.inr ⟨r, I', J', f1, f2, f3, f4, f5, f6, f7, f8, f9, p1, p2⟩
/-- plan() -/
theorem plan_call (h : mK m I J) (h0 : I 0 11 = J 0 18) : (∃ v, jv (d + 14) 211 0 [some (.ref 0)] [] (shC, I, L, pX pa pb pu pw) = some (some (.int v), (shC, I, L, pX pa pb pu pw)) ∧ jv (e + 13) 356 0 [some (.ref 0), none, none, none] [] (shR, J, L', pR) = some (some (.int v), (shR, J, L', pR))) ∨ ∃ v I' J', (∀ c, c < 107 ∨ (107 < c ∧ c < 110) ∨ 116 < c → I' c = I c) ∧ (∀ f, f ≠ 1 → f ≠ 5 → f ≠ 8 → I' 107 f = I 107 f) ∧ (∀ f, I' 116 f = if f = 10 then 0 else I 116 f) ∧ (∀ c, 0 < c → c < 72 ∨ 77 < c → J' c = J c) ∧ (∀ f, f ≠ 120 → f ≠ 121 → J' 0 f = J 0 f) ∧ I' 107 1 = 1 ∧ J' 0 120 = 1 ∧ planRel I' J' ∧ jv (d + 14) 211 0 [some (.ref 0)] [] (shC, I, L, pX pa pb pu pw) = some (some (.int v), (shC, I', L, pX pa pb pu pw)) ∧ jv (e + 13) 356 0 [some (.ref 0), none, none, none] [] (shR, J, L', pR) = some (some (.int v), (shR, J', L', pR)) := by
  by_cases q : J 0 18 = 0
  case neg => exact Or.inl ⟨-3, by rw [B211_0, h0, if_neg q], by rw [B356_0, if_neg q]⟩
  obtain ⟨dy, hd, cr, fs, bt, HA, CA, m1, m2⟩ := h.plan
  obtain ⟨v, S, w, T, p1, p2, r, I', J', rfl, rfl, rfl, rfl, f1, f2, f3, f4, f5, f6, f7, f8⟩ := plan_sim (d := d) (e := e) (L := L) (L' := L') (pa := pa) (pb := pb) (pu := pu) (pw := pw) m1 m2 h.2.2.2.1 (by rw [h0]; exact q) q
  exact Or.inr ⟨r, I', J', f1, f2, f3, f4, f5, f6, f7, f8, p1, p2⟩
end SECD
