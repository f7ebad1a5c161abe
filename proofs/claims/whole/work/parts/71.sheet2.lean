/-! SHEETS: the walks to their ends, and the reference's -/
theorem nI_dec {x : Nat} (h : 0 < x) : nI x + (-1) = nI (x - 1) := by
  have e1 : nI x = nI (x - 1) + 1 := by
    rw [nI_1, show x - 1 + 1 = x by omega]
  rw [e1, Int32.add_assoc, show (1 : Int32) + (-1) = 0 from rfl]
  exact nI_add (x - 1) 0
section SHEET2
variable {d e : Nat} {I J : Nat → Nat → Int32} {L L' : Nat → Nat → Int64} {pa pb pu pw : Option Nat} {K : Option Value → jS → jO} {w h : Nat} {o : Nat → Nat → Nat → Nat}
theorem c1_all (H : shIn w h o I J) {s : Nat} (hs : s < 6) : jv (d + 1) 124 0 [some (.ref 83), some (.int (nI s)), none, none, none] [] (shC, I, L, pX pa pb pu pw) = some (some (.int (nI (wky (sh1 o s) w h 0))), (shC, I, L, pX pa pb pu pw)) := by
  obtain ⟨h1, h2, h3, h4, h5, h6, h7, h8, h9, ha, hb⟩ := id H
  obtain ⟨z, hz⟩ := j_runE (fun y (o4 : Option Value) => jv (d + 1) 124 4 [some (.ref 83), some (.int (nI s)), some (.int (nI (wky (sh1 o s) w y 0))), some (.int (nI y)), o4] [] (shC, I, L, pX pa pb pu pw)) h (fun y hy o4 => ⟨some (.int (nI w)), by
    rw [B124_4, h4, if_pos (nI_lt hy (by omega))]
    refine (c1_row H hs hy).trans ?_
    rw [B124_15, h3, if_neg (nI_nlt (Nat.le_refl _) (by omega)), nI_1 y]
    rfl⟩) none
  rw [B124_0]
  refine hz.trans ?_
  rw [B124_4, h4, if_neg (nI_nlt (Nat.le_refl _) (by omega))]
theorem c2_all (H : shIn w h o I J) {s : Nat} (hs : s < 6) : jv (d + 1) 125 0 [some (.ref 83), some (.int (nI s)), none, none, none] [] (shC, I, L, pX pa pb pu pw) = some (some (.int (nI (wky (sh2 o s) w h 0))), (shC, I, L, pX pa pb pu pw)) := by
  obtain ⟨h1, h2, h3, h4, h5, h6, h7, h8, h9, ha, hb⟩ := id H
  obtain ⟨z, hz⟩ := j_runE (fun y (o4 : Option Value) => jv (d + 1) 125 4 [some (.ref 83), some (.int (nI s)), some (.int (nI (wky (sh2 o s) w y 0))), some (.int (nI y)), o4] [] (shC, I, L, pX pa pb pu pw)) h (fun y hy o4 => ⟨some (.int (nI w)), by
    rw [B125_4, h4, if_pos (nI_lt hy (by omega))]
    refine (c2_row H hs hy).trans ?_
    rw [B125_15, h3, if_neg (nI_nlt (Nat.le_refl _) (by omega)), nI_1 y]
    rfl⟩) none
  rw [B125_0]
  refine hz.trans ?_
  rw [B125_4, h4, if_neg (nI_nlt (Nat.le_refl _) (by omega))]
theorem c3_all (H : shIn w h o I J) {s : Nat} (hs : s < 6) : jv (d + 1) 126 0 [some (.ref 83), some (.int (nI s)), none, none, none, none] [] (shC, I, L, pX pa pb pu pw) = some (some (.int (nI (wky (sh3 o s) (w + 1) (h + 1) 0))), (shC, I, L, pX pa pb pu pw)) := by
  obtain ⟨h1, h2, h3, h4, h5, h6, h7, h8, h9, ha, hb⟩ := id H
  obtain ⟨z, hz⟩ := j_runE (fun y (o4 : Option Value × Option Value) => jv (d + 1) 126 4 [some (.ref 83), some (.int (nI s)), some (.int (nI (wky (sh3 o s) (w + 1) y 0))), some (.int (nI y)), o4.1, o4.2] [] (shC, I, L, pX pa pb pu pw)) (h + 1) (fun y hy o4 => by
    obtain ⟨z, hz⟩ := c3_row (d := d) (L := L) (pa := pa) (pb := pb) (pu := pu) (pw := pw) H hs (y := y) (a := wky (sh3 o s) (w + 1) y 0) (by omega) o4.2
    refine ⟨(some (.int (nI (w + 1))), z), ?_⟩
    rw [B126_4, h4, if_neg (nI_nlt (by omega) (by omega))]
    refine hz.trans ?_
    rw [B126_15, h3, if_pos (nI_lt (by omega) (by omega)), nI_1 y]
    rfl) (none, none)
  rw [B126_0]
  refine hz.trans ?_
  rw [B126_4, h4, if_pos (nI_lt (by omega) (by omega))]
theorem n340 (H : shIn w h o I J) {s c a v : Nat} (hs : s < 6) (hc : 0 < c) (hc2 : c < 2 ^ 31) {l2 l3 l6 X Y t0 t1 : Int32} (o8 o9 : Option Value) (hY : t0 + t1 = Y) (hv : ((X < 0 ∨ Y < 0 ∨ 63 < X ∨ 47 < Y) ∧ v = 0) ∨ ∃ x y, x < 64 ∧ y < 48 ∧ X = nI x ∧ Y = nI y ∧ v = o s x y) : jv e 340 58 [some (.ref 0), some (.int (nI s)), some (.int l2), some (.int l3), some (.int (nI c)), some (.int (nI a)), some (.int l6), some (.int X), o8, o9] [.int t1, .int t0] (shR, J, L', pR) = jv e 340 6 [some (.ref 0), some (.int (nI s)), some (.int l2), some (.int l3), some (.int (nI c)), some (.int (nI (a + cutN c v))), some (.int (l6 + 1)), some (.int X), some (.int Y), some (.int (nI v))] [] (shR, J, L', pR) := by
  obtain ⟨h1, h2, h3, h4, h5, h6, h7, h8, h9, ha, hb⟩ := id H
  have k1 : ∀ v : Nat, v < 2 ^ 31 → jv e 340 108 [some (.ref 0), some (.int (nI s)), some (.int l2), some (.int l3), some (.int (nI c)), some (.int (nI a)), some (.int l6), some (.int X), some (.int Y), o9] [.int (nI v)] (shR, J, L', pR) = jv e 340 6 [some (.ref 0), some (.int (nI s)), some (.int l2), some (.int l3), some (.int (nI c)), some (.int (nI (a + cutN c v))), some (.int (l6 + 1)), some (.int X), some (.int Y), some (.int (nI v))] [] (shR, J, L', pR) := fun v hv => by
    rw [B340_108]
    unfold cutN
    rw [if_neg (show ¬ c = 0 by omega)]
    by_cases q : v = 0
    · rw [if_pos (show nI v = 0 by rw [q]; rfl), B340_124, B340_129, if_pos q, nI_1 a]
    · rw [if_neg (show ¬ nI v = 0 from fun r => q ((nI_eq hv (b := 0) (by decide)).mp r)), if_neg q]
      by_cases r : c < v
      · rw [if_pos (nI_lt r hv), B340_124, B340_129, if_pos r, nI_1 a]
      · rw [if_neg (nI_nlt (by omega) hc2), B340_129, if_neg r, show nI a + 0 = nI (a + 0) from nI_add a 0]
  rw [B340_58, hY]
  rcases hv with ⟨hq, rfl⟩ | ⟨x, y, hx, hy, rfl, rfl, rfl⟩
  · by_cases q1 : X < 0
    · rw [if_pos q1, B340_85]; exact k1 0 (by decide)
    rw [if_neg q1]
    by_cases q2 : Y < 0
    · rw [if_pos q2, B340_85]; exact k1 0 (by decide)
    rw [if_neg q2]
    by_cases q3 : 63 < X
    · rw [if_pos q3, B340_85]; exact k1 0 (by decide)
    rw [if_neg q3]
    by_cases q4 : 47 < Y
    · rw [if_pos q4, B340_85]; exact k1 0 (by decide)
    · rcases hq with z | z | z | z
      · exact absurd z q1
      · exact absurd z q2
      · exact absurd z q3
      · exact absurd z q4
  · have e1 : 3072 * nI s + 64 * nI y + nI x = nI (3072 * s + 64 * y + x) := by
      rw [show 3072 * nI s = nI (3072 * s) from nI_mul 3072 s, show 64 * nI y = nI (64 * y) from nI_mul 64 y, nI_add, nI_add]
    rw [if_neg (show ¬ nI x < 0 from nI_nlt (a := x) (b := 0) (by omega) (by omega)), if_neg (show ¬ nI y < 0 from nI_nlt (a := y) (b := 0) (by omega) (by omega)), if_neg (show ¬ 63 < nI x from nI_nlt (a := 63) (b := x) (by omega) (by decide)), if_neg (show ¬ 47 < nI y from nI_nlt (a := 47) (b := y) (by omega) (by decide)), e1, if_pos (j_in_nI (by omega) (by decide)), nI_clamp (by omega), h9 s hs x y hx hy]
    exact k1 _ (h7 s x y)
theorem r340 (H : shIn w h o I J) {s x y : Nat} (hs : s < 6) (hx : x < 64) (hy : y < 48) (hc : 0 < o s x y) : jv e 340 0 [some (.ref 0), some (.int (nI s)), some (.int (nI x)), some (.int (nI y)), some (.int (nI (o s x y))), none, none, none, none, none] [] (shR, J, L', pR) = some (some (.int (nI (cutN (o s x y) (o s (x + 1) y) + cutN (o s x y) (prvN (fun x => o s x y) x) + (cutN (o s x y) (o s x (y + 1)) + cutN (o s x y) (prvN (o s x) y))))), (shR, J, L', pR)) := by
  obtain ⟨h1, h2, h3, h4, h5, h6, h7, h8, h9, ha, hb⟩ := id H
  have hz := h7 s x y
  have a0 : nI x + 0 = nI x := nI_add x 0
  have b0 : nI y + 0 = nI y := nI_add y 0
  rw [B340_0, B340_6, if_pos (by decide), if_pos rfl, B340_33, if_neg (by decide), if_neg (by decide)]
  refine (n340 H (a := 0) (v := o s (x + 1) y) hs hc hz (Y := nI y) _ _ b0 (by
    by_cases q : x = 63
    · left; refine ⟨Or.inr (Or.inr (Or.inl ?_)), ha s _ y (by omega)⟩; rw [q]; decide
    · right; exact ⟨x + 1, y, by omega, hy, nI_1 x, rfl, rfl⟩)).trans ?_
  rw [B340_6, if_pos (by decide), if_neg (by decide), if_pos (by decide), B340_33, if_neg (by decide), if_neg (by decide)]
  rw [n340 H (v := prvN (fun x => o s x y) x) hs hc hz (Y := nI y) _ _ b0 (by
    unfold prvN
    by_cases q : x = 0
    · left; refine ⟨Or.inl ?_, if_pos q⟩; rw [q]; decide
    · right; refine ⟨x - 1, y, by omega, hy, nI_dec (by omega), rfl, if_neg q⟩)]
  rw [B340_6, if_pos (by decide), if_neg (by decide), if_neg (by decide), B340_33, if_pos (by decide)]
  rw [n340 H (v := o s x (y + 1)) hs hc hz (Y := nI (y + 1)) _ _ (nI_1 y) (by
    by_cases q : y = 47
    · left; refine ⟨Or.inr (Or.inr (Or.inr ?_)), hb s x _ (by omega)⟩; rw [q]; decide
    · right; exact ⟨x, y + 1, hx, by omega, a0, rfl, rfl⟩)]
  rw [B340_6, if_pos (by decide), if_neg (by decide), if_neg (by decide), B340_33, if_neg (by decide), if_pos (by decide)]
  rw [n340 H (v := prvN (o s x) y) hs hc hz (Y := nI y + (-1)) _ _ rfl (by
    unfold prvN
    by_cases q : y = 0
    · left; refine ⟨Or.inr (Or.inl ?_), if_pos q⟩; rw [q]; decide
    · right; refine ⟨x, y - 1, hx, by omega, a0, nI_dec (by omega), if_neg q⟩)]
  rw [B340_6, if_neg (by decide)]
  congr 5
  omega
end SHEET2
