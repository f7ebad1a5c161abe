/-! PLATES: the largest that is wanted and not done, in the class -/
section NESTG
variable {d e : Nat} {I J : Nat → Nat → Int32} {L L' : Nat → Nat → Int64} {pa pb pu pw : Option Nat} {a : Nat → Nat → Nat} {cn : Nat → Nat}
def candP (a : Nat → Nat → Nat) (cn : Nat → Nat) (dn : Int32) (k : Nat) : Prop := ¬ ibit k dn ∧ 0 < cn k ∧ 0 < cellN (a k) 12
def bestC (a : Nat → Nat → Nat) (cn : Nat → Nat) (dn : Int32) (n : Nat) (r : Int32) (m : Nat) : Prop := (r = -1 ∧ m = 0 ∧ ∀ k, k < n → ¬ candP a cn dn k) ∨ ∃ b, b < n ∧ r = nI b ∧ m = cellN (a b) 12 ∧ candP a cn dn b ∧ ∀ k, k < n → candP a cn dn k → cellN (a k) 12 < cellN (a b) 12 ∨ (cellN (a k) 12 = cellN (a b) 12 ∧ b ≤ k)
theorem pop_le (n : Nat) : popN n ≤ 24 := by
  unfold popN
  have := smN_le (fun u => n / 2 ^ u % 2) 1 24 (fun u _ => by show n / 2 ^ u % 2 ≤ 1; generalize n / 2 ^ u = m; omega)
  omega
theorem cell_le (a : Nat → Nat) : cellN a 12 ≤ 288 := by
  unfold cellN
  have := smN_le (fun j => popN (a j)) 24 12 (fun j _ => pop_le _)
  omega
theorem largest_c (ha : ∀ k, k < 8 → ∀ j, j < 12 → a k j < 2 ^ 24 ∧ I 2 (600 + k * 14 + j) = nI (a k j)) (hc : ∀ k, k < 8 → cn k ≤ 4 ∧ I 2 (600 + k * 14 + 12) = nI (cn k)) (dn : Int32) : ∃ r m, bestC a cn dn 8 r m ∧ jv (d + 1) 114 0 [some (.ref 1), some (.int dn), none, none, none, none, none] [] (shC, I, L, pX pa pb pu pw) = some (some (.int r), (shC, I, L, pX pa pb pu pw)) := by
  obtain ⟨⟨r, m, z5, z6⟩, hB, h4⟩ := j_runP (fun k (q : Int32 × Nat × Option Value × Option Value) => jv (d + 1) 114 7 [some (.ref 1), some (.int dn), some (.int q.1), some (.int (nI q.2.1)), some (.int (nI k)), q.2.2.1, q.2.2.2] [] (shC, I, L, pX pa pb pu pw)) (fun k q => bestC a cn dn k q.1 q.2.1) 8 (fun k hk q hq => by
    obtain ⟨r, m, o5, o6⟩ := q
    dsimp only at hq ⊢
    obtain ⟨c1, c2⟩ := hc k hk
    have lk := cell_le (a k)
    have lm : m ≤ 288 := by
      rcases hq with ⟨-, z, -⟩ | ⟨b, -, -, z, -⟩
      · omega
      · rw [z]; exact cell_le _
    have st : jv (d + 1) 114 7 [some (.ref 1), some (.int dn), some (.int r), some (.int (nI m)), some (.int (nI k)), o5, o6] [] (shC, I, L, pX pa pb pu pw) = jv (d + 1) 114 20 [some (.ref 1), some (.int dn), some (.int r), some (.int (nI m)), some (.int (nI k)), some (.int (nI (cellN (a k) 12))), some (.int (nI 12))] [] (shC, I, L, pX pa pb pu pw) := by
      rw [B114_7, if_pos (show nI k < 8 from nI_lt (b := 8) hk (by decide))]
      exact cells_c hk (ha k hk) dn r (nI m)
    have skip : ¬ (candP a cn dn k ∧ m < cellN (a k) 12) → bestC a cn dn (k + 1) r m := fun h => by
      rcases hq with ⟨y1, y2, y3⟩ | ⟨b, y1, y2, y3, y4, y5⟩
      · left
        refine ⟨y1, y2, fun k' hk' hcand => ?_⟩
        by_cases e : k' = k
        · subst e
          exact h ⟨hcand, by have := hcand.2.2; omega⟩
        · exact y3 k' (by omega) hcand
      · right
        refine ⟨b, by omega, y2, y3, y4, fun k' hk' hcand => ?_⟩
        by_cases e : k' = k
        · subst e
          have : ¬ m < cellN (a k') 12 := fun z => h ⟨hcand, z⟩
          omega
        · exact y5 k' (by omega) hcand
    rw [st, B114_20, if_neg (by decide)]
    by_cases q1 : ibit k dn
    · rw [if_neg (fun z => ((ibit_no (by omega)).mp z) q1), B114_85, nI_1 k]
      exact ⟨(r, m, _, _), skip (fun z => z.1.1 q1), rfl⟩
    · rw [if_pos ((ibit_no (by omega)).mpr q1), show (12 : Int32) = nI 12 from rfl, g_plt_c hk (by decide)]
      dsimp only [Option.toList_some, List.cons_append, List.nil_append]
      rw [c2, B114_70]
      by_cases q2 : 0 < cn k
      · rw [if_pos (show (0 : Int32) < nI (cn k) from nI_lt (a := 0) q2 (by omega))]
        by_cases q3 : m < cellN (a k) 12
        · rw [if_pos (nI_lt q3 (by omega)), B114_85, nI_1 k]
          refine ⟨(nI k, cellN (a k) 12, _, _), Or.inr ⟨k, by omega, rfl, rfl, ⟨q1, q2, by omega⟩, fun k' hk' hcand => ?_⟩, rfl⟩
          by_cases e : k' = k
          · subst e
            exact Or.inr ⟨rfl, Nat.le_refl _⟩
          · left
            rcases hq with ⟨y1, y2, y3⟩ | ⟨b, y1, y2, y3, y4, y5⟩
            · exact absurd hcand (y3 k' (by omega))
            · have := y5 k' (by omega) hcand
              omega
        · rw [if_neg (nI_nlt (by omega) (by omega)), B114_85, nI_1 k]
          exact ⟨(r, m, _, _), skip (fun z => q3 z.2), rfl⟩
      · rw [if_neg (show ¬ (0 : Int32) < nI (cn k) from nI_nlt (a := 0) (by omega) (by decide)), B114_85, nI_1 k]
        exact ⟨(r, m, _, _), skip (fun z => q2 z.1.2.1), rfl⟩) (-1, 0, none, none) (Or.inl ⟨rfl, rfl, fun k hk => absurd hk (Nat.not_lt_zero _)⟩)
  dsimp only at hB h4
  refine ⟨r, m, hB, ?_⟩
  rw [B114_0]
  refine h4.trans ?_
  rw [B114_7, if_neg (by decide)]
end NESTG
