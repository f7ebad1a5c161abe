/-! PIPES: stepped(), price() and payAhead() of the reference -/
section LEADH
variable {e : Nat} {L : Nat → Nat → Int64} {J : Nat → Nat → Int32}
theorem st_in {l0 l1 l2 l6 t0 t1 : Int32} {x y z : Nat} (hx : x < 20) (hy : y < 10) (hz : z < 8) (ht : t0 + t1 = nI z) (l5 : Int32) : jv e 345 91 [some (.int l0), some (.int l1), some (.int l2), some (.int (nI x)), some (.int (nI y)), some (.int l5), some (.int l6)] [.int t1, .int t0] (shR, J, L, pR) = some (some (.int (nI (x + 20 * y + 200 * z))), (shR, J, L, pR)) := by
  rw [B345_91, ht, if_neg (nI_pos (by omega)), if_neg (nI_pos (by omega)), if_neg (nI_pos (by omega)), if_neg (show ¬ (19 : Int32) < nI x from nI_nlt (a := 19) (by omega) (by decide)), if_neg (show ¬ (9 : Int32) < nI y from nI_nlt (a := 9) (by omega) (by decide)), if_neg (show ¬ (7 : Int32) < nI z from nI_nlt (a := 7) (by omega) (by decide)), B345_146, show 20 * nI y = nI (20 * y) from nI_mul 20 y, show 200 * nI z = nI (200 * z) from nI_mul 200 z, nI_add, nI_add]
theorem st_out {l0 l1 l2 l3 l4 l5 l6 t0 t1 : Int32} (h : l3 < 0 ∨ l4 < 0 ∨ t0 + t1 < 0 ∨ 19 < l3 ∨ 9 < l4 ∨ 7 < t0 + t1) : jv e 345 91 [some (.int l0), some (.int l1), some (.int l2), some (.int l3), some (.int l4), some (.int l5), some (.int l6)] [.int t1, .int t0] (shR, J, L, pR) = some (some (.int (-1)), (shR, J, L, pR)) := by
  rw [B345_91]
  by_cases h1 : l3 < 0
  · rw [if_pos h1, B345_128, B345_146]
  rw [if_neg h1]
  by_cases h2 : l4 < 0
  · rw [if_pos h2, B345_128, B345_146]
  rw [if_neg h2]
  by_cases h3 : t0 + t1 < 0
  · rw [if_pos h3, B345_128, B345_146]
  rw [if_neg h3]
  by_cases h4 : 19 < l3
  · rw [if_pos h4, B345_128, B345_146]
  rw [if_neg h4]
  by_cases h5 : 9 < l4
  · rw [if_pos h5, B345_128, B345_146]
  rw [if_neg h5]
  by_cases h6 : 7 < t0 + t1
  · rw [if_pos h6, B345_128, B345_146]
  exact absurd h (by rintro (z | z | z | z | z | z) <;> contradiction)

theorem st_b {c s : Nat} (hc : c < 1600) (hs : s < 6) (o3 o4 o5 o6 : Option Value) : jv e 345 0 [some (.int (nI c)), some (.int (nI s)), some (.int 1), o3, o4, o5, o6] [] (shR, J, L, pR) = some (some (.int (oN (nbO c (bkS s)))), (shR, J, L, pR)) := by
  have ex : nI c - nI c / 20 * 20 = nI (c % 20) := nI_mod (b := 20) (by omega) (by decide)
  have ed : nI c / 20 = nI (c / 20) := nI_div (b := 20) (by omega) (by decide)
  have ey : nI (c / 20) - nI (c / 20) / 10 * 10 = nI (c / 20 % 10) := nI_mod (b := 10) (by omega) (by decide)
  have ez : nI c / 200 = nI (c / 200) := nI_div (b := 200) (by omega) (by decide)
  rw [B345_0, if_neg (by decide), if_neg (by decide), if_neg (by decide), if_neg (by decide), if_neg (by decide), ex, ed, ey, ez]
  have : s = 0 ∨ s = 1 ∨ s = 2 ∨ s = 3 ∨ s = 4 ∨ s = 5 := by omega
  rcases this with rfl | rfl | rfl | rfl | rfl | rfl
  · rw [show bkS 0 = 1 from rfl, if_pos (by decide), B345_32, if_pos (by decide), B345_41, if_pos (by decide), B345_55]
    rw [if_neg (by decide), if_neg (by decide), B345_75, if_neg (by decide)]
    rw [show nI (c / 20 % 10) + 0 = nI (c / 20 % 10) from Int32.add_zero _]
    by_cases w : 0 < c % 20
    · rw [show nI (c % 20) + (-1) = nI (c % 20 - 1) from nI_dec w, st_in (x := c % 20 - 1) (y := c / 20 % 10) (z := c / 200) (by omega) (by omega) (by omega) (Int32.add_zero _), show c % 20 - 1 + 20 * (c / 20 % 10) + 200 * (c / 200) = c - 1 by omega, show nbO c 1 = some (c - 1) from (nbO_iff hc (by decide)).mpr (by unfold stp; omega)]
      rfl
    · rw [st_out (Or.inl (show nI (c % 20) + (-1) < 0 by rw [show c % 20 = 0 by omega]; decide)), show nbO c 1 = none from by unfold nbO; rw [if_neg (by decide), if_pos rfl, if_neg w]]
      rfl
  · rw [show bkS 1 = 0 from rfl, if_neg (by decide), B345_32, if_neg (by decide), B345_41, if_pos (by decide), B345_55]
    rw [if_neg (by decide), if_neg (by decide), B345_75, if_neg (by decide)]
    rw [show nI (c / 20 % 10) + 0 = nI (c / 20 % 10) from Int32.add_zero _]
    by_cases w : c % 20 < 19
    · rw [show nI (c % 20) + 1 = nI (c % 20 + 1) from nI_1 _, st_in (x := c % 20 + 1) (y := c / 20 % 10) (z := c / 200) (by omega) (by omega) (by omega) (Int32.add_zero _), show c % 20 + 1 + 20 * (c / 20 % 10) + 200 * (c / 200) = c + 1 by omega, show nbO c 0 = some (c + 1) from (nbO_iff hc (by decide)).mpr (by unfold stp; omega)]
      rfl
    · rw [st_out (Or.inr (Or.inr (Or.inr (Or.inl (show (19 : Int32) < nI (c % 20) + 1 by rw [nI_1]; exact nI_lt (a := 19) (by omega) (by omega)))))), show nbO c 0 = none from by unfold nbO; rw [if_pos rfl, if_neg w]]
      rfl
  · rw [show bkS 2 = 3 from rfl, if_pos (by decide), B345_32, if_pos (by decide), B345_41, if_neg (by decide), B345_55]
    rw [if_pos (by decide), B345_69, B345_75, if_neg (by decide)]
    rw [show nI (c % 20) + 0 = nI (c % 20) from Int32.add_zero _]
    by_cases w : 0 < c / 20 % 10
    · rw [show nI (c / 20 % 10) + (-1) = nI (c / 20 % 10 - 1) from nI_dec w, st_in (x := c % 20) (y := c / 20 % 10 - 1) (z := c / 200) (by omega) (by omega) (by omega) (Int32.add_zero _), show c % 20 + 20 * (c / 20 % 10 - 1) + 200 * (c / 200) = c - 20 by omega, show nbO c 3 = some (c - 20) from (nbO_iff hc (by decide)).mpr (by unfold stp; omega)]
      rfl
    · rw [st_out (Or.inr (Or.inl (show nI (c / 20 % 10) + (-1) < 0 by rw [show c / 20 % 10 = 0 by omega]; decide))), show nbO c 3 = none from by unfold nbO; rw [if_neg (by decide), if_neg (by decide), if_neg (by decide), if_pos rfl, if_neg w]]
      rfl
  · rw [show bkS 3 = 2 from rfl, if_neg (by decide), B345_32, if_neg (by decide), B345_41, if_neg (by decide), B345_55]
    rw [if_neg (by decide), if_pos (by decide), B345_69, B345_75, if_neg (by decide)]
    rw [show nI (c % 20) + 0 = nI (c % 20) from Int32.add_zero _]
    by_cases w : c / 20 % 10 < 9
    · rw [show nI (c / 20 % 10) + 1 = nI (c / 20 % 10 + 1) from nI_1 _, st_in (x := c % 20) (y := c / 20 % 10 + 1) (z := c / 200) (by omega) (by omega) (by omega) (Int32.add_zero _), show c % 20 + 20 * (c / 20 % 10 + 1) + 200 * (c / 200) = c + 20 by omega, show nbO c 2 = some (c + 20) from (nbO_iff hc (by decide)).mpr (by unfold stp; omega)]
      rfl
    · rw [st_out (Or.inr (Or.inr (Or.inr (Or.inr (Or.inl (show (9 : Int32) < nI (c / 20 % 10) + 1 by rw [nI_1]; exact nI_lt (a := 9) (by omega) (by omega))))))), show nbO c 2 = none from by unfold nbO; rw [if_neg (by decide), if_neg (by decide), if_pos rfl, if_neg w]]
      rfl
  · rw [show bkS 4 = 5 from rfl, if_pos (by decide), B345_32, if_pos (by decide), B345_41, if_neg (by decide), B345_55]
    rw [if_neg (by decide), if_neg (by decide), B345_75, if_pos (by decide)]
    rw [show nI (c % 20) + 0 = nI (c % 20) from Int32.add_zero _, show nI (c / 20 % 10) + 0 = nI (c / 20 % 10) from Int32.add_zero _]
    by_cases w : 0 < c / 200
    · rw [st_in (x := c % 20) (y := c / 20 % 10) (z := c / 200 - 1) (by omega) (by omega) (by omega) (show nI (c / 200) + (-1) = nI (c / 200 - 1) from nI_dec w), show c % 20 + 20 * (c / 20 % 10) + 200 * (c / 200 - 1) = c - 200 by omega, show nbO c 5 = some (c - 200) from (nbO_iff hc (by decide)).mpr (by unfold stp; omega)]
      rfl
    · rw [st_out (Or.inr (Or.inr (Or.inl (show nI (c / 200) + (-1) < 0 by rw [show c / 200 = 0 by omega]; decide)))), show nbO c 5 = none from by unfold nbO; rw [if_neg (by decide), if_neg (by decide), if_neg (by decide), if_neg (by decide), if_neg (by decide), if_neg w]]
      rfl
  · rw [show bkS 5 = 4 from rfl, if_neg (by decide), B345_32, if_neg (by decide), B345_41, if_neg (by decide), B345_55]
    rw [if_neg (by decide), if_neg (by decide), B345_75, if_pos (by decide)]
    rw [show nI (c % 20) + 0 = nI (c % 20) from Int32.add_zero _, show nI (c / 20 % 10) + 0 = nI (c / 20 % 10) from Int32.add_zero _]
    by_cases w : c / 200 < 7
    · rw [st_in (x := c % 20) (y := c / 20 % 10) (z := c / 200 + 1) (by omega) (by omega) (by omega) (show nI (c / 200) + 1 = nI (c / 200 + 1) from nI_1 _), show c % 20 + 20 * (c / 20 % 10) + 200 * (c / 200 + 1) = c + 200 by omega, show nbO c 4 = some (c + 200) from (nbO_iff hc (by decide)).mpr (by unfold stp; omega)]
      rfl
    · rw [st_out (Or.inr (Or.inr (Or.inr (Or.inr (Or.inr (show (7 : Int32) < nI (c / 200) + 1 by rw [nI_1]; exact nI_lt (a := 7) (by omega) (by omega))))))), show nbO c 4 = none from by unfold nbO; rw [if_neg (by decide), if_neg (by decide), if_neg (by decide), if_neg (by decide), if_pos rfl, if_neg w]]
      rfl
theorem st_f {c s : Nat} (hc : c < 1600) (hs : s < 6) (o3 o4 o5 o6 : Option Value) : jv e 345 0 [some (.int (nI c)), some (.int (nI s)), some (.int 0), o3, o4, o5, o6] [] (shR, J, L, pR) = some (some (.int (oN (nbO c s))), (shR, J, L, pR)) := by
  have ex : nI c - nI c / 20 * 20 = nI (c % 20) := nI_mod (b := 20) (by omega) (by decide)
  have ed : nI c / 20 = nI (c / 20) := nI_div (b := 20) (by omega) (by decide)
  have ey : nI (c / 20) - nI (c / 20) / 10 * 10 = nI (c / 20 % 10) := nI_mod (b := 10) (by omega) (by decide)
  have ez : nI c / 200 = nI (c / 200) := nI_div (b := 200) (by omega) (by decide)
  rw [B345_0, if_neg (by decide), if_neg (by decide), if_neg (by decide), if_neg (by decide), if_neg (by decide), ex, ed, ey, ez]
  have : s = 0 ∨ s = 1 ∨ s = 2 ∨ s = 3 ∨ s = 4 ∨ s = 5 := by omega
  rcases this with rfl | rfl | rfl | rfl | rfl | rfl
  · rw [if_pos (by decide), B345_32, if_neg (by decide), B345_41, if_pos (by decide), B345_55]
    rw [if_neg (by decide), if_neg (by decide), B345_75, if_neg (by decide)]
    rw [show nI (c / 20 % 10) + 0 = nI (c / 20 % 10) from Int32.add_zero _]
    by_cases w : c % 20 < 19
    · rw [show nI (c % 20) + 1 = nI (c % 20 + 1) from nI_1 _, st_in (x := c % 20 + 1) (y := c / 20 % 10) (z := c / 200) (by omega) (by omega) (by omega) (Int32.add_zero _), show c % 20 + 1 + 20 * (c / 20 % 10) + 200 * (c / 200) = c + 1 by omega, show nbO c 0 = some (c + 1) from (nbO_iff hc (by decide)).mpr (by unfold stp; omega)]
      rfl
    · rw [st_out (Or.inr (Or.inr (Or.inr (Or.inl (show (19 : Int32) < nI (c % 20) + 1 by rw [nI_1]; exact nI_lt (a := 19) (by omega) (by omega)))))), show nbO c 0 = none from by unfold nbO; rw [if_pos rfl, if_neg w]]
      rfl
  · rw [if_neg (by decide), B345_32, if_pos (by decide), B345_41, if_pos (by decide), B345_55]
    rw [if_neg (by decide), if_neg (by decide), B345_75, if_neg (by decide)]
    rw [show nI (c / 20 % 10) + 0 = nI (c / 20 % 10) from Int32.add_zero _]
    by_cases w : 0 < c % 20
    · rw [show nI (c % 20) + (-1) = nI (c % 20 - 1) from nI_dec w, st_in (x := c % 20 - 1) (y := c / 20 % 10) (z := c / 200) (by omega) (by omega) (by omega) (Int32.add_zero _), show c % 20 - 1 + 20 * (c / 20 % 10) + 200 * (c / 200) = c - 1 by omega, show nbO c 1 = some (c - 1) from (nbO_iff hc (by decide)).mpr (by unfold stp; omega)]
      rfl
    · rw [st_out (Or.inl (show nI (c % 20) + (-1) < 0 by rw [show c % 20 = 0 by omega]; decide)), show nbO c 1 = none from by unfold nbO; rw [if_neg (by decide), if_pos rfl, if_neg w]]
      rfl
  · rw [if_pos (by decide), B345_32, if_neg (by decide), B345_41, if_neg (by decide), B345_55]
    rw [if_pos (by decide), B345_69, B345_75, if_neg (by decide)]
    rw [show nI (c % 20) + 0 = nI (c % 20) from Int32.add_zero _]
    by_cases w : c / 20 % 10 < 9
    · rw [show nI (c / 20 % 10) + 1 = nI (c / 20 % 10 + 1) from nI_1 _, st_in (x := c % 20) (y := c / 20 % 10 + 1) (z := c / 200) (by omega) (by omega) (by omega) (Int32.add_zero _), show c % 20 + 20 * (c / 20 % 10 + 1) + 200 * (c / 200) = c + 20 by omega, show nbO c 2 = some (c + 20) from (nbO_iff hc (by decide)).mpr (by unfold stp; omega)]
      rfl
    · rw [st_out (Or.inr (Or.inr (Or.inr (Or.inr (Or.inl (show (9 : Int32) < nI (c / 20 % 10) + 1 by rw [nI_1]; exact nI_lt (a := 9) (by omega) (by omega))))))), show nbO c 2 = none from by unfold nbO; rw [if_neg (by decide), if_neg (by decide), if_pos rfl, if_neg w]]
      rfl
  · rw [if_neg (by decide), B345_32, if_pos (by decide), B345_41, if_neg (by decide), B345_55]
    rw [if_neg (by decide), if_pos (by decide), B345_69, B345_75, if_neg (by decide)]
    rw [show nI (c % 20) + 0 = nI (c % 20) from Int32.add_zero _]
    by_cases w : 0 < c / 20 % 10
    · rw [show nI (c / 20 % 10) + (-1) = nI (c / 20 % 10 - 1) from nI_dec w, st_in (x := c % 20) (y := c / 20 % 10 - 1) (z := c / 200) (by omega) (by omega) (by omega) (Int32.add_zero _), show c % 20 + 20 * (c / 20 % 10 - 1) + 200 * (c / 200) = c - 20 by omega, show nbO c 3 = some (c - 20) from (nbO_iff hc (by decide)).mpr (by unfold stp; omega)]
      rfl
    · rw [st_out (Or.inr (Or.inl (show nI (c / 20 % 10) + (-1) < 0 by rw [show c / 20 % 10 = 0 by omega]; decide))), show nbO c 3 = none from by unfold nbO; rw [if_neg (by decide), if_neg (by decide), if_neg (by decide), if_pos rfl, if_neg w]]
      rfl
  · rw [if_pos (by decide), B345_32, if_neg (by decide), B345_41, if_neg (by decide), B345_55]
    rw [if_neg (by decide), if_neg (by decide), B345_75, if_pos (by decide)]
    rw [show nI (c % 20) + 0 = nI (c % 20) from Int32.add_zero _, show nI (c / 20 % 10) + 0 = nI (c / 20 % 10) from Int32.add_zero _]
    by_cases w : c / 200 < 7
    · rw [st_in (x := c % 20) (y := c / 20 % 10) (z := c / 200 + 1) (by omega) (by omega) (by omega) (show nI (c / 200) + 1 = nI (c / 200 + 1) from nI_1 _), show c % 20 + 20 * (c / 20 % 10) + 200 * (c / 200 + 1) = c + 200 by omega, show nbO c 4 = some (c + 200) from (nbO_iff hc (by decide)).mpr (by unfold stp; omega)]
      rfl
    · rw [st_out (Or.inr (Or.inr (Or.inr (Or.inr (Or.inr (show (7 : Int32) < nI (c / 200) + 1 by rw [nI_1]; exact nI_lt (a := 7) (by omega) (by omega))))))), show nbO c 4 = none from by unfold nbO; rw [if_neg (by decide), if_neg (by decide), if_neg (by decide), if_neg (by decide), if_pos rfl, if_neg w]]
      rfl
  · rw [if_neg (by decide), B345_32, if_pos (by decide), B345_41, if_neg (by decide), B345_55]
    rw [if_neg (by decide), if_neg (by decide), B345_75, if_pos (by decide)]
    rw [show nI (c % 20) + 0 = nI (c % 20) from Int32.add_zero _, show nI (c / 20 % 10) + 0 = nI (c / 20 % 10) from Int32.add_zero _]
    by_cases w : 0 < c / 200
    · rw [st_in (x := c % 20) (y := c / 20 % 10) (z := c / 200 - 1) (by omega) (by omega) (by omega) (show nI (c / 200) + (-1) = nI (c / 200 - 1) from nI_dec w), show c % 20 + 20 * (c / 20 % 10) + 200 * (c / 200 - 1) = c - 200 by omega, show nbO c 5 = some (c - 200) from (nbO_iff hc (by decide)).mpr (by unfold stp; omega)]
      rfl
    · rw [st_out (Or.inr (Or.inr (Or.inl (show nI (c / 200) + (-1) < 0 by rw [show c / 200 = 0 by omega]; decide)))), show nbO c 5 = none from by unfold nbO; rw [if_neg (by decide), if_neg (by decide), if_neg (by decide), if_neg (by decide), if_neg (by decide), if_neg w]]
      rfl
theorem pri_r {s l : Nat} (hs : s < 6) (hl : l < 6) : jv e 350 0 [some (.int (nI s)), some (.int (nI l))] [] (shR, J, L, pR) = some (some (.int (nI (prN s l))), (shR, J, L, pR)) := by
  rw [B350_0]
  unfold prN csN
  have key : ∀ t1 : Int32, ∀ k : Nat, (2 : Int32) + t1 = nI k → jv e 350 11 [some (.int (nI s)), some (.int (nI l))] [.int t1, .int 2] (shR, J, L, pR) = some (some (.int (nI (k + if l = s then 0 else 3))), (shR, J, L, pR)) := by
    intro t1 k hk
    rw [B350_11, if_neg (nI_pos (by omega)), hk]
    by_cases w : l = s
    · rw [if_pos ((nI_eq (by omega) (by omega)).mpr w), B350_25, B350_26, if_pos w, show nI k + 0 = nI (k + 0) from nI_add k 0]
    · rw [if_neg (fun z => w ((nI_eq (by omega) (by omega)).mp z)), B350_26, if_neg w, show nI k + 3 = nI (k + 3) from nI_add k 3]
  by_cases w : s < 4
  · rw [if_neg (show ¬ (3 : Int32) < nI s from nI_nlt (a := 3) (by omega) (by decide)), key 0 2 rfl, if_pos w]
  · rw [if_pos (show (3 : Int32) < nI s from nI_lt (a := 3) (by omega) (by omega)), key 1 3 rfl, if_neg w]
theorem pri_0 {s : Nat} (hs : s < 6) : jv e 350 0 [some (.int (nI s)), some (.int (-1))] [] (shR, J, L, pR) = some (some (.int (nI (csN s))), (shR, J, L, pR)) := by
  rw [B350_0]
  unfold csN
  by_cases w : s < 4
  · rw [if_neg (show ¬ (3 : Int32) < nI s from nI_nlt (a := 3) (by omega) (by decide)), B350_11, if_pos (by decide), B350_25, B350_26, if_pos w]
    rfl
  · rw [if_pos (show (3 : Int32) < nI s from nI_lt (a := 3) (by omega) (by omega)), B350_11, if_pos (by decide), B350_25, B350_26, if_neg w]
    rfl
/-- the barred cells -/
def brR (B : Nat → Prop) (J : Nat → Nat → Int32) : Prop := ∀ c, c < 1600 → (J 67 c = 0 ↔ ¬ B c)
theorem brR.fr {B : Nat → Prop} {J J' : Nat → Nat → Int32} (h : brR B J) (hf : fP J J') : brR B J' := by
  intro c hc
  rw [hf.1 67 (by decide) (by decide) (by decide) (by decide) (by decide)]
  exact h c hc
/-- a state is worked out: payAhead() -/
theorem pay_r {B : Nat → Prop} {cur now n m c s to : Nat} {q : Option Nat} {Z : Nat → Prop} {f : Nat → Nat} (Q : rq cur now n q m 0 (fun y => y = 6 * c + s ∨ Z y) f J) (hcur : cur = now % 7) (D : djk 1000000 B to now Z f) (hb : brR B J) (hc : c < 1600) (hs : s < 6) (hto : to < 1600) (hz : ¬ Z (6 * c + s)) (hf : f (6 * c + s) = now) (hM : now ≤ 9594) (hn : n + 6 < 60000) : ∃ f' n' J', n' ≤ n + 6 ∧ fP J J' ∧ djk 1000000 B to now (fun y => y = 6 * c + s ∨ Z y) f' ∧ rq cur now n' q m 0 (fun y => y = 6 * c + s ∨ Z y) f' J' ∧ jv (e + 1) 353 0 [some (.ref 0), some (.int (nI (6 * c + s))), some (.int (nI to)), none, none] [] (shR, J, L, pR) = some (none, (shR, J', L, pR)) := by
  rw [B353_0, if_neg (by decide), if_neg (by decide), show nI (6 * c + s) - nI (6 * c + s) / 6 * 6 = nI ((6 * c + s) % 6) from nI_mod (b := 6) (by omega) (by decide), show nI (6 * c + s) / 6 = nI ((6 * c + s) / 6) from nI_div (b := 6) (by omega) (by decide), show (6 * c + s) % 6 = s by omega, show (6 * c + s) / 6 = c by omega, jgo_some rfl (st_b hc hs none none none none)]
  dsimp only [Option.toList_some, List.cons_append, List.nil_append]
  rw [B353_12]
  cases h1 : nbO c (bkS s) with
  | none =>
    have no : ∀ p, p < 1600 → ¬ stp p s c := by
      intro p hp z
      have := (nbO_iff hc (bk_lt hs)).mpr ((stp_bk hs hc hp).mpr z)
      rw [h1] at this
      cases this
    rw [if_pos oN_none, B353_31]
    exact ⟨f, n, J, by omega, fP.rfl' J, D.skip hc hs hf (by omega) (fun p hp z _ => absurd z (no p hp)), Q, rfl⟩
  | some p =>
    have h2 := (nbO_iff hc (bk_lt hs)).mp h1
    have hp := stp_lt hc h2
    have h3 := (stp_bk hs hc hp).mp h2
    have un : ∀ p', p' < 1600 → stp p' s c → p' = p := fun p' hp' z => stp_fn ((stp_bk hs hc hp').mpr z) h2
    rw [if_neg (oN_some (by omega)), show oN (some p) = nI p from rfl, if_pos (j_in_nI hp (by decide)), nI_clamp (n := p) (by omega)]
    by_cases w : B p
    · rw [if_neg (fun z => (hb p hp).mp z w), B353_31]
      exact ⟨f, n, J, by omega, fP.rfl' J, D.skip hc hs hf (by omega) (fun p' hp' z w' => absurd w ((un p' hp' z) ▸ w')), Q, rfl⟩
    · rw [if_pos ((hb p hp).mpr w)]
      by_cases w2 : p = to
      · rw [if_pos ((nI_eq (by omega) (by omega)).mpr w2), B353_31]
        exact ⟨f, n, J, by omega, fP.rfl' J, D.skip hc hs hf (by omega) (fun p' hp' z _ => (un p' hp' z).trans w2), Q, rfl⟩
      · rw [if_neg (fun z => w2 ((nI_eq (by omega) (by omega)).mp z))]
        have hzz : ∀ y, y = 6 * c + s ∨ Z y → f y ≤ now := by
          rintro y (rfl | z)
          · omega
          · exact (D.2.1 y z).2
        obtain ⟨⟨n', J'⟩, ⟨a1, a2, a3⟩, a4⟩ := j_runP (α := Nat × (Nat → Nat → Int32)) (fun j t => jv (e + 1) 353 35 [some (.ref 0), some (.int (nI (6 * c + s))), some (.int (nI to)), some (.int (nI p)), some (.int (nI j))] [] (shR, t.2, L, pR)) (fun j t => t.1 ≤ n + j ∧ fP J t.2 ∧ rq cur now t.1 q m 0 (fun y => y = 6 * c + s ∨ Z y) (rlx f p s now j) t.2) 6 (fun j hj t ht => by
          obtain ⟨n1, J1⟩ := t
          obtain ⟨b1, b2, b3⟩ := ht
          dsimp only at b1 b2 b3 ⊢
          have p2 := pr_two s j
          have hx := b3.left (6 * c + s) (by omega)
          rw [rlx_low (show f (6 * c + s) ≤ now by omega), hf] at hx
          have lowz : ∀ y, y = 6 * c + s ∨ Z y → rlx f p s now j y ≤ now + prN s j := by
            intro y hy
            have := rlx_le f p s now j y
            have := hzz y hy
            omega
          obtain ⟨n2, J2, c1, c2, c3, c4⟩ := lower_r (e := e) (L := L) (y := 6 * p + j) (v := now + prN s j) b3 (by omega) (by omega) (by omega) (by omega) (by omega) (by rw [hcur]; omega) lowz
          refine ⟨(n2, J2), ⟨by dsimp only; omega, b2.trans c2, c3.cg (fun _ => Iff.rfl) (fun z => (rlx_succ f hj z).symm)⟩, ?_⟩
          try dsimp only
          rw [B353_35, if_pos (show nI j < 6 from nI_lt (b := 6) hj (by decide)), if_pos (j_in_nI (by omega) (by decide)), if_neg (by decide), nI_clamp (n := 6 * c + s) (by omega), hx.1, show nI (6 * c + s) - nI (6 * c + s) / 6 * 6 = nI ((6 * c + s) % 6) from nI_mod (b := 6) (by omega) (by decide), show (6 * c + s) % 6 = s by omega, jgo_some rfl (pri_r hs hj)]
          dsimp only [Option.toList_some, List.cons_append, List.nil_append]
          rw [B353_65, nI_add, show 6 * nI p = nI (6 * p) from nI_mul 6 p, nI_add, jgo_some rfl c4]
          dsimp only [Option.toList_none, List.nil_append]
          rw [B353_69, nI_1]) (n, J) ⟨Nat.le_refl _, fP.rfl' J, Q.cg (fun _ => Iff.rfl) (fun z => (rlx_zero f p s now z).symm)⟩
        dsimp only at a1 a2 a3 a4
        refine ⟨rlx f p s now 6, n', J', a1, a2, D.go hc hs hp hz hf (by omega) h3 w, a3, (show _ = _ from a4).trans ?_⟩
        rw [B353_35, if_neg (by decide)]
end LEADH
