/-! SEA: the four sums, second one -/
section SEAP
variable {e : Nat} {J : Nat → Nat → Int32} {L : Nat → Nat → Int64}
def colZ (lo hi : Nat → Int) (F : Nat → Nat → Int → Int) (a b c : Int) (s k : Nat) : Int := sR (fun y => F s k y * (2 * y + 1)) (lo (16 * s + k)) (if plY a b c s k < hi (16 * s + k) then plY a b c s k else hi (16 * s + k))
/-- the w-th sum's share of a column -/
def colW (lo hi : Nat → Int) (F : Nat → Nat → Int → Int) (a b c : Int) (w s k : Nat) : Int := if w = 0 then colF lo hi F a b c s k else if w = 1 then colF lo hi F a b c s k * (2 * s - 15) else if w = 2 then colF lo hi F a b c s k * (2 * k - 15) else colZ lo hi F a b c s k
theorem sums_r {f : Nat → Nat} {x x' bb : Nat → Int} {lo hi : Nat → Int} {F : Nat → Nat → Int → Int} (hC : ∀ s k, s < 16 → k < 16 → rnC J f x x' bb (16 * s + k) (lo (16 * s + k)) (hi (16 * s + k)) (F s k)) {a b c : Int} (ha : -200001 ≤ a ∧ a ≤ 200001) (hb : -2048 ≤ b ∧ b ≤ 2048) (hc : -2048 ≤ c ∧ c ≤ 2048) : jv e 303 0 [some (.ref 0), some (.int (vI a)), some (.int (vI b)), some (.int (vI c)), none, none, none, none, none, none, none] [] (shR, J, L, pR) = some (none, (shR, J, mmL L (sZ (fun s => sZ (colW lo hi F a b c 0 s) 0 16) 0 16) (sZ (fun s => sZ (colW lo hi F a b c 1 s) 0 16) 0 16) (sZ (fun s => sZ (colW lo hi F a b c 2 s) 0 16) 0 16) (sZ (fun s => sZ (colW lo hi F a b c 3 s) 0 16) 0 16), pR)) := by
  have nx : ∀ w s k, sZ (colW lo hi F a b c w s) 0 (k + 1) = sZ (colW lo hi F a b c w s) 0 k + colW lo hi F a b c w s k := fun w s k => by
    show sZ (colW lo hi F a b c w s) 0 k + colW lo hi F a b c w s (0 + k) = _
    rw [Nat.zero_add]
  have cols : ∀ s, s < 16 → ∀ r k (A X Y Z : Int) (o6 o7 o8 o9 o10 : Option Value), k + r = 16 → ∃ p5 p6 p7 p8 p9 p10, jv e 303 33 [some (.ref 0), some (.int (vI a)), some (.int (vI b)), some (.int (vI c)), some (.int (nI s)), some (.int (nI k)), o6, o7, o8, o9, o10] [] (shR, J, mmL L (A + sZ (colW lo hi F a b c 0 s) 0 k) (X + sZ (colW lo hi F a b c 1 s) 0 k) (Y + sZ (colW lo hi F a b c 2 s) 0 k) (Z + sZ (colW lo hi F a b c 3 s) 0 k), pR) = jv e 303 23 [some (.ref 0), some (.int (vI a)), some (.int (vI b)), some (.int (vI c)), some (.int (nI (s + 1))), p5, p6, p7, p8, p9, p10] [] (shR, J, mmL L (A + sZ (colW lo hi F a b c 0 s) 0 16) (X + sZ (colW lo hi F a b c 1 s) 0 16) (Y + sZ (colW lo hi F a b c 2 s) 0 16) (Z + sZ (colW lo hi F a b c 3 s) 0 16), pR) := by
    intro s hs r
    induction r with
    | zero =>
      intro k A X Y Z o6 o7 o8 o9 o10 hk
      obtain rfl : k = 16 := by omega
      exact ⟨_, _, _, _, _, _, by rw [B303_33, if_neg (show ¬ nI 16 < (16 : Int32) by decide), show nI s + 1 = nI (s + 1) from nI_add s 1]⟩
    | succ r ih =>
      intro k A X Y Z o6 o7 o8 o9 o10 hk
      have k16 : k < 16 := by omega
      have hCk := hC s k hs k16
      obtain ⟨c1, c2, c3, c4, c5, c6, c7, c8⟩ := id hCk
      have pb' := plY_b ha hb hc hs k16
      obtain ⟨p7, p8, p9, p10, n1⟩ := mcol_r (e := e) (L := L) (l1 := vI a) (l2 := vI b) (l3 := vI c) hs k16 hCk pb'.1 pb'.2 (f (16 * s + k + 1) - f (16 * s + k)) (f (16 * s + k)) (A + sZ (colW lo hi F a b c 0 s) 0 k) (X + sZ (colW lo hi F a b c 1 s) 0 k) (Y + sZ (colW lo hi F a b c 2 s) 0 k) (Z + sZ (colW lo hi F a b c 3 s) 0 k) o8 o9 o10 (Nat.le_refl _) (by omega)
      have ce : ∀ G : Int → Int, (if f (16 * s + k + 1) - f (16 * s + k) = 0 then 0 else sR G (x (f (16 * s + k))) (if plY a b c s k < hi (16 * s + k) then plY a b c s k else hi (16 * s + k))) = sR G (lo (16 * s + k)) (if plY a b c s k < hi (16 * s + k) then plY a b c s k else hi (16 * s + k)) := by
        intro G
        by_cases z : f (16 * s + k + 1) - f (16 * s + k) = 0
        · rw [if_pos z, sR_nil (show (if plY a b c s k < hi (16 * s + k) then plY a b c s k else hi (16 * s + k)) ≤ lo (16 * s + k) by have := c7 (by omega); split <;> omega)]
        · rw [if_neg z, c6 (by omega)]
      rw [ce, ce] at n1
      obtain ⟨q5, q6, q7, q8, q9, q10, n2⟩ := ih (k + 1) A X Y Z (some (.int (vI (plY a b c s k)))) (some (.int p7)) p8 p9 p10 (by omega)
      refine ⟨q5, q6, q7, q8, q9, q10, ?_⟩
      have ei : (16 : Int32) * nI s + nI k = nI (16 * s + k) := by rw [show (16 : Int32) = nI 16 from rfl, nI_mul, nI_add]
      rw [B303_33, if_pos (show nI k < (16 : Int32) from nI_lt (b := 16) k16 (by decide)), ei, if_pos (j_in_nI (by omega) (by decide)), nI_clamp (by omega), c1, plY_v]
      refine n1.trans ?_
      rw [B303_238, show nI k + 1 = nI (k + 1) from nI_add k 1]
      rw [nx, nx, nx, nx, ← Int.add_assoc, ← Int.add_assoc, ← Int.add_assoc, ← Int.add_assoc] at n2
      exact n2
  have rows : ∀ r s (o5 o6 o7 o8 o9 o10 : Option Value), s + r = 16 → jv e 303 23 [some (.ref 0), some (.int (vI a)), some (.int (vI b)), some (.int (vI c)), some (.int (nI s)), o5, o6, o7, o8, o9, o10] [] (shR, J, mmL L (sZ (fun s => sZ (colW lo hi F a b c 0 s) 0 16) 0 s) (sZ (fun s => sZ (colW lo hi F a b c 1 s) 0 16) 0 s) (sZ (fun s => sZ (colW lo hi F a b c 2 s) 0 16) 0 s) (sZ (fun s => sZ (colW lo hi F a b c 3 s) 0 16) 0 s), pR) = some (none, (shR, J, mmL L (sZ (fun s => sZ (colW lo hi F a b c 0 s) 0 16) 0 16) (sZ (fun s => sZ (colW lo hi F a b c 1 s) 0 16) 0 16) (sZ (fun s => sZ (colW lo hi F a b c 2 s) 0 16) 0 16) (sZ (fun s => sZ (colW lo hi F a b c 3 s) 0 16) 0 16), pR)) := by
    intro r
    induction r with
    | zero =>
      intro s o5 o6 o7 o8 o9 o10 hs
      obtain rfl : s = 16 := by omega
      rw [B303_23, if_neg (show ¬ nI 16 < (16 : Int32) by decide)]
    | succ r ih =>
      intro s o5 o6 o7 o8 o9 o10 hs
      have s16 : s < 16 := by omega
      obtain ⟨p5, p6, p7, p8, p9, p10, n1⟩ := cols s s16 16 0 (sZ (fun s => sZ (colW lo hi F a b c 0 s) 0 16) 0 s) (sZ (fun s => sZ (colW lo hi F a b c 1 s) 0 16) 0 s) (sZ (fun s => sZ (colW lo hi F a b c 2 s) 0 16) 0 s) (sZ (fun s => sZ (colW lo hi F a b c 3 s) 0 16) 0 s) o6 o7 o8 o9 o10 rfl
      have z0 : ∀ w, sZ (colW lo hi F a b c w s) 0 0 = 0 := fun _ => rfl
      rw [z0, z0, z0, z0, Int.add_zero, Int.add_zero, Int.add_zero, Int.add_zero] at n1
      rw [B303_23, if_pos (show nI s < (16 : Int32) from nI_lt (b := 16) s16 (by decide))]
      refine (show _ = _ from n1).trans ?_
      have st : ∀ w, sZ (fun s => sZ (colW lo hi F a b c w s) 0 16) 0 s + sZ (colW lo hi F a b c w s) 0 16 = sZ (fun s => sZ (colW lo hi F a b c w s) 0 16) 0 (s + 1) := fun w => by
        show _ = sZ (fun s => sZ (colW lo hi F a b c w s) 0 16) 0 s + sZ (colW lo hi F a b c w (0 + s)) 0 16
        rw [Nat.zero_add]
      rw [st, st, st, st]
      exact ih (s + 1) p5 p6 p7 p8 p9 p10 (by omega)
  rw [B303_0]
  exact rows 16 0 none none none none none none rfl
end SEAP
