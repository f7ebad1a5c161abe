/-! SEA: the amount, second one -/
section SEAN
variable {e : Nat} {J : Nat → Nat → Int32} {L : Nat → Nat → Int64}
/-- a column up to a plane -/
def colF (lo hi : Nat → Int) (F : Nat → Nat → Int → Int) (a b c : Int) (s k : Nat) : Int := sR (F s k) (lo (16 * s + k)) (if plY a b c s k < hi (16 * s + k) then plY a b c s k else hi (16 * s + k))
theorem amount_r {f : Nat → Nat} {x x' bb : Nat → Int} {lo hi : Nat → Int} {F : Nat → Nat → Int → Int} (hC : ∀ s k, s < 16 → k < 16 → rnC J f x x' bb (16 * s + k) (lo (16 * s + k)) (hi (16 * s + k)) (F s k)) {a b c : Int} (ha : -200001 ≤ a ∧ a ≤ 200001) (hb : -2048 ≤ b ∧ b ≤ 2048) (hc : -2048 ≤ c ∧ c ≤ 2048) : jv e 302 0 [some (.ref 0), some (.int (vI a)), some (.int (vI b)), some (.int (vI c)), none, none, none, none, none, none] [] (shR, J, L, pR) = some (some (.long (lI (sZ (fun s => sZ (colF lo hi F a b c s) 0 16) 0 16))), (shR, J, L, pR)) := by
  have cols : ∀ s, s < 16 → ∀ r k (A : Int) (o8 o9 : Option Value), k + r = 16 → ∃ p7 p8 p9, jv e 302 16 [some (.ref 0), some (.int (vI a)), some (.int (vI b)), some (.int (vI c)), some (.long (lI (A + sZ (colF lo hi F a b c s) 0 k))), none, some (.int (nI s)), some (.int (nI k)), o8, o9] [] (shR, J, L, pR) = jv e 302 6 [some (.ref 0), some (.int (vI a)), some (.int (vI b)), some (.int (vI c)), some (.long (lI (A + sZ (colF lo hi F a b c s) 0 16))), none, some (.int (nI (s + 1))), p7, p8, p9] [] (shR, J, L, pR) := by
    intro s hs r
    induction r with
    | zero =>
      intro k A o8 o9 hk
      obtain rfl : k = 16 := by omega
      exact ⟨_, _, _, by rw [B302_16, if_neg (show ¬ nI 16 < (16 : Int32) by decide), show nI s + 1 = nI (s + 1) from nI_add s 1]⟩
    | succ r ih =>
      intro k A o8 o9 hk
      have k16 : k < 16 := by omega
      have hCk := hC s k hs k16
      obtain ⟨c1, c2, c3, c4, c5, c6, c7, c8⟩ := id hCk
      have pb' := plY_b ha hb hc hs k16
      obtain ⟨o9', n1⟩ := acol_r (e := e) (L := L) (l1 := vI a) (l2 := vI b) (l3 := vI c) hs k16 hCk pb'.1 pb'.2 (f (16 * s + k + 1) - f (16 * s + k)) (f (16 * s + k)) (A + sZ (colF lo hi F a b c s) 0 k) (Nat.le_refl _) (by omega)
      have ce : (if f (16 * s + k + 1) - f (16 * s + k) = 0 then 0 else sR (F s k) (x (f (16 * s + k))) (if plY a b c s k < hi (16 * s + k) then plY a b c s k else hi (16 * s + k))) = colF lo hi F a b c s k := by
        unfold colF
        by_cases z : f (16 * s + k + 1) - f (16 * s + k) = 0
        · rw [if_pos z, sR_nil (show (if plY a b c s k < hi (16 * s + k) then plY a b c s k else hi (16 * s + k)) ≤ lo (16 * s + k) by have := c7 (by omega); split <;> omega)]
        · rw [if_neg z, c6 (by omega)]
      obtain ⟨p7, p8, p9, n2⟩ := ih (k + 1) A (some (.int (vI (plY a b c s k)))) (some (.int o9')) (by omega)
      refine ⟨p7, p8, p9, ?_⟩
      have ei : (16 : Int32) * nI s + nI k = nI (16 * s + k) := by rw [show (16 : Int32) = nI 16 from rfl, nI_mul, nI_add]
      rw [B302_16, if_pos (show nI k < (16 : Int32) from nI_lt (b := 16) k16 (by decide)), ei, if_pos (j_in_nI (by omega) (by decide)), nI_clamp (by omega), c1, plY_v, n1, ce, B302_146, show nI k + 1 = nI (k + 1) from nI_add k 1, Int.add_assoc, show sZ (colF lo hi F a b c s) 0 k + colF lo hi F a b c s k = sZ (colF lo hi F a b c s) 0 (k + 1) by show _ = sZ (colF lo hi F a b c s) 0 k + colF lo hi F a b c s (0 + k); rw [Nat.zero_add]]
      exact n2
  have rows : ∀ r s (o7 o8 o9 : Option Value), s + r = 16 → jv e 302 6 [some (.ref 0), some (.int (vI a)), some (.int (vI b)), some (.int (vI c)), some (.long (lI (sZ (fun s => sZ (colF lo hi F a b c s) 0 16) 0 s))), none, some (.int (nI s)), o7, o8, o9] [] (shR, J, L, pR) = some (some (.long (lI (sZ (fun s => sZ (colF lo hi F a b c s) 0 16) 0 16))), (shR, J, L, pR)) := by
    intro r
    induction r with
    | zero =>
      intro s o7 o8 o9 hs
      obtain rfl : s = 16 := by omega
      rw [B302_6, if_neg (show ¬ nI 16 < (16 : Int32) by decide)]
    | succ r ih =>
      intro s o7 o8 o9 hs
      have s16 : s < 16 := by omega
      obtain ⟨p7, p8, p9, n1⟩ := cols s s16 16 0 (sZ (fun s => sZ (colF lo hi F a b c s) 0 16) 0 s) o8 o9 rfl
      rw [show sZ (colF lo hi F a b c s) 0 0 = 0 from rfl, Int.add_zero] at n1
      rw [B302_6, if_pos (show nI s < (16 : Int32) from nI_lt (b := 16) s16 (by decide))]
      refine (show _ = _ from n1).trans ?_
      have st : sZ (fun s => sZ (colF lo hi F a b c s) 0 16) 0 s + sZ (colF lo hi F a b c s) 0 16 = sZ (fun s => sZ (colF lo hi F a b c s) 0 16) 0 (s + 1) := by
        show _ = sZ (fun s => sZ (colF lo hi F a b c s) 0 16) 0 s + sZ (colF lo hi F a b c (0 + s)) 0 16
        rw [Nat.zero_add]
      rw [st]
      exact ih (s + 1) p7 p8 p9 (by omega)
  rw [B302_0]
  exact rows 16 0 none none none rfl
end SEAN
