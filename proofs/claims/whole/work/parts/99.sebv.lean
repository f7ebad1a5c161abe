/-! RULES: words of the sea, second one; words of something -/
section SEBV
variable {d e : Nat} {I J : Nat → Nat → Int32} {L L' : Nat → Nat → Int64} {pa pb pu pw : Option Nat} {m : Nat → Int32} {k : Bool} {N o r : Nat} {ans : Int32} {b c : Int}
theorem j_up_ii (J : Nat → Nat → Int32) (a q : Nat) : j_up J a q (J a q) = J := by
  funext x y
  by_cases z : x = a ∧ y = q
  · rw [z.1, z.2, j_up_eq]
  · rw [j_up_nq _ (by omega)]
/-- what the second one's half hangs on -/
theorem rH.gen {J' : Nat → Nat → Int32} {L1 : Nat → Nat → Int64} (h : rH m k o r ans b c I J L') (f1 : ∀ x, x ≠ 0 → J' x = J x) (f2 : ∀ q, (59 ≤ q ∧ q ≤ 62) ∨ (66 ≤ q ∧ q ≤ 68) → J' 0 q = J 0 q) (f3 : ∀ x, 38 ≤ x → x ≤ 41 → L1 x = L' x) (f4 : ∀ q, 63 ≤ q → q ≤ 65 → L1 0 q = L' 0 q) : rH m k o r ans b c I J' L1 := by
  obtain ⟨n4, h2⟩ := h
  refine ⟨by rw [f3 40 (by decide) (by decide), f3 41 (by decide) (by decide)]; exact n4, ?_⟩
  cases k with
  | false =>
    rw [if_pos rfl] at h2 ⊢
    rw [f2 59 (by decide)]; exact h2
  | true =>
    rw [if_neg (by decide)] at h2 ⊢
    obtain ⟨z2, ⟨s1, s2, s3, s4, ⟨g, s5, s6⟩, s7⟩, y7, hR⟩ := h2
    refine ⟨by rw [f2 59 (by decide)]; exact z2, ⟨s1.frR (fun x x1 _ => f1 x x1), s2, s3, by rw [f2 62 (by decide)]; exact s4, ⟨g, s5.cg f1, by rw [f1 44 (by decide)]; exact s6⟩, by rw [f4 63 (by decide) (by decide)]; exact s7⟩, by rw [f2 60 (by decide), f2 61 (by decide), f4 64 (by decide) (by decide)]; exact y7, fun z => ?_⟩
    obtain ⟨r1, r2, r3, r4, r5, r6⟩ := hR z
    refine ⟨by rw [f2 66 (by decide), f2 67 (by decide), f2 68 (by decide)]; exact r1, by rw [f4 65 (by decide) (by decide), f3 38 (by decide) (by decide)]; exact r2, fun s hs => by rw [f3 39 (by decide) (by decide)]; exact r3 s hs, fun i hi => by rw [f1 42 (by decide)]; exact r4 i hi, fun p hp hl => by rw [f1 43 (by decide)]; exact r5 p hp hl, fun q hq => by rw [f3 40 (by decide) (by decide), f3 41 (by decide) (by decide)]; exact r6 q hq⟩
theorem rsB_t (hd : k = true → seaD m o r ans b c) (z : rsB k ans = true) : k = true ∧ ans = 0 ∧ r ≤ 16 ∧ (-2048 ≤ c ∧ c ≤ 2048) ∧ (-2048 ≤ b ∧ b ≤ 2048) ∧ (-200001 ≤ seaL m o (WT m o) b c ∧ seaL m o (WT m o) b c ≤ 200001) := by
  have k1 : k = true := by
    cases k with
    | false => exact absurd z (by unfold rsB; simp)
    | true => rfl
  subst k1
  have a0 : ans = 0 := by unfold rsB at z; simpa using z
  obtain ⟨-, r16, d3⟩ := hd rfl
  obtain ⟨-, q1, q2, q3⟩ := (d3.resolve_left (by rw [a0]; decide)).resolve_left (by rw [a0]; decide)
  exact ⟨rfl, a0, r16, q1, q2, q3⟩
theorem rH.known (h : rH m true o r ans b c I J L') : J 0 59 = 1 ∧ rfS m o I J L' ∧ (J 0 60 = ans ∧ J 0 61 = nI r ∧ L' 0 64 = lI (VW m o 0 200000 0 0)) ∧ (ans = 0 → restR m o b c J L') := by
  have := h.2
  rw [if_neg (by decide)] at this
  exact this
theorem cH.known (h : cH m true N o r ans b c I J L) : I 60 2 = 1 ∧ seaC m o I J L ∧ memK m o I L ∧ (L 61 0 = ans.toInt64 ∧ L 61 1 = (nI r).toInt64 ∧ L 61 2 = (nI o).toInt64 ∧ L 61 3 = lI (WT m o) ∧ L 61 4 = lI (VW m o 0 200000 0 0)) ∧ (ans = 0 → restC m o b c I L) := by
  have := h.2.2.2
  rw [if_neg (by decide)] at this
  exact this
/-- a part, second one -/
theorem part_r (x y : Int64) (K : Option Value → jS → jO) : jgo jTT jMM (e + 3) 289 [.ref 0, .long x, .long y] (shR, J, L, pR) K = K none (shR, j_up J 0 53 0, fqR L (fS x.toInt y.toInt), pR) := by
  have h1 : jv (e + 2) 289 0 [some (.ref 0), some (.long x), none, some (.long y), none] [] (shR, J, L, pR) = some (none, (shR, j_up J 0 53 0, fqR L (fS x.toInt y.toInt), pR)) := by
    rw [B289_0, if_pos bl_0, jgo_some (d := e + 1) rfl (res_r (e := e) (J := j_up J 0 53 0) (by rw [j_up_eq]) x y)]
    dsimp only [Option.toList_some, Option.toList_none, List.cons_append, List.nil_append]
    rw [B289_11]
  exact jgo_some (d := e + 2) rfl h1
theorem whole_r2 (x : Int64) (K : Option Value → jS → jO) : jgo jTT jMM (e + 3) 288 [.ref 0, .long x] (shR, J, L, pR) K = K none (shR, j_up J 0 53 0, fqR L (fS x.toInt 1), pR) := by
  have h1 : jv (e + 2) 288 0 [some (.ref 0), some (.long x), none] [] (shR, J, L, pR) = some (none, (shR, j_up J 0 53 0, fqR L (fS x.toInt 1), pR)) := by
    rw [B288_0, if_pos bl_0, jgo_some (d := e + 1) rfl (res_r (e := e) (J := j_up J 0 53 0) (by rw [j_up_eq]) x 1)]
    dsimp only [Option.toList_some, Option.toList_none, List.cons_append, List.nil_append]
    rw [B288_11]
    rfl
  exact jgo_some (d := e + 2) rfl h1
theorem word_r0 (hd : k = true → seaD m o r ans b c) (h2 : rH m k o r ans b c I J L') {w : Nat} (hw : w < 6) : ∃ y, jv (e + 3) 291 0 [some (.ref 0), some (.int (nI w))] [] (shR, J, L', pR) = some (none, (shR, j_up J 0 53 y, fqR L' (wdZ m k o r ans b c w), pR)) := by
  have st : jv (e + 3) 291 0 [some (.ref 0), some (.int (nI w))] [] (shR, J, L', pR) = jv (e + 3) 291 14 [some (.ref 0), some (.int (nI w))] [.int (if rsB k ans = true then 1 else 0)] (shR, J, fqR L' (0, 0), pR) := by
    rw [B291_0, jgo_some (d := e + 2) rfl und_r]
    dsimp only [Option.toList_some, Option.toList_none, List.cons_append, List.nil_append]
    rw [B291_4, if_pos (show nI w < 6 from nI_lt (b := 6) hw (by decide)), jgo_some (d := e + 2) rfl (rests_r1 h2)]
    rfl
  rw [st, B291_14]
  unfold wdZ
  by_cases z : rsB k ans = true
  case neg => exact ⟨J 0 53, by rw [if_neg z, if_neg z, if_pos rfl, j_up_ii]⟩
  obtain ⟨k1, a0, r16, q1, q2, q3⟩ := rsB_t hd z
  subst k1
  obtain ⟨z2, y5, ⟨y7, y8, -⟩, hR⟩ := h2.known
  obtain ⟨⟨u5, u6, u7⟩, ⟨u8, -⟩, -⟩ := hR a0
  have wb := WT_b y5.1 o
  have vb : 0 ≤ VA m o 0 b c ∧ VA m o 0 b c ≤ 524288000 := VW_b y5.1 y5.2.1 y5.2.2.1 _ _ _
  have l63 : fqR L' (0, 0) 0 63 = lI (WT m o) := by rw [fqR_0 _ (by decide) (by decide)]; exact y5.2.2.2.2.2
  have l65 : fqR L' (0, 0) 0 65 = lI (VA m o 0 b c) := by rw [fqR_0 _ (by decide) (by decide)]; exact u8
  refine ⟨0, ?_⟩
  rw [if_pos z, if_pos z, if_neg (show ¬ (1 : Int32) = 0 by decide), l63, l65, u5, u6, u7, y8, vI_64 (z := seaL m o (WT m o) b c) (by omega) (by omega), vI_64' q2.1 q2.2, vI_64' q1.1 q1.2, nI64 (by omega)]
  have : w = 0 ∨ w = 1 ∨ w = 2 ∨ w = 3 ∨ w = 4 ∨ w = 5 := by omega
  rcases this with rfl | rfl | rfl | rfl | rfl | rfl
  · simp (decide := true) only [↓reduceIte]
    rw [B291_54, part_r, lI_toInt (by omega) (by omega), fqR_2]
    dsimp only [Option.toList_some, Option.toList_none, List.cons_append, List.nil_append]
    rw [B291_60, B291_266]; rfl
  · simp (decide := true) only [↓reduceIte]
    rw [B291_54, part_r, lI_toInt (by omega) (by omega), fqR_2]
    dsimp only [Option.toList_some, Option.toList_none, List.cons_append, List.nil_append]
    rw [B291_60, B291_266]; rfl
  · simp (decide := true) only [↓reduceIte]
    rw [B291_54, part_r, lI_toInt (by omega) (by omega), fqR_2]
    dsimp only [Option.toList_some, Option.toList_none, List.cons_append, List.nil_append]
    rw [B291_60, B291_266]; rfl
  · simp (decide := true) only [↓reduceIte]
    rw [part_r, lI_toInt (by omega) (by omega), fqR_2]
    dsimp only [Option.toList_some, Option.toList_none, List.cons_append, List.nil_append]
    rw [B291_79, B291_266]; rfl
  · simp (decide := true) only [↓reduceIte]
    rw [part_r, lI_toInt (by omega) (by omega), fqR_2]
    dsimp only [Option.toList_some, Option.toList_none, List.cons_append, List.nil_append]
    rw [B291_98, B291_266]; rfl
  · simp (decide := true) only [↓reduceIte]
    rw [whole_r2, lI_toInt (by omega) (by omega), fqR_2]
    dsimp only [Option.toList_some, Option.toList_none, List.cons_append, List.nil_append]
    rw [B291_110, B291_266]
/-- words of something that ask the sea -/
noncomputable def woZ (m : Nat → Int32) (k : Bool) (o : Nat) (ans : Int32) (b c : Int) (w : Nat) (p : Int × Int) : Int × Int := if p.2 = 1 ∧ rsB k ans = true then (if w = 0 then (if 0 ≤ p.1 ∧ p.1 ≤ 15 then fS (seaL m o (WT m o) b c + b * (2 * p.1 - 15)) 64 else (0, 0)) else if w = 1 then (if 0 ≤ p.1 ∧ p.1 ≤ 16 then fS (lI (fOr m o (seaL m o (WT m o) b c) b c p.1.toNat)).toInt 1024 else (0, 0)) else if w = 2 then (if 0 ≤ p.1 ∧ p.1 ≤ 16 then fS (lI (bEn m o (seaL m o (WT m o) b c) b c p.1.toNat)).toInt 1024 else (0, 0)) else (if -2048 ≤ p.1 ∧ p.1 ≤ 2048 then (match tR m o p.1 with | none => (0, 0) | some bb => fS (tU m o bb p.1).toInt 1) else (0, 0))) else (0, 0)
theorem woZ_b {w : Nat} (p : Int × Int) : fN (woZ m k o ans b c w p) ∧ nz (woZ m k o ans b c w p) := by
  have n0 : fN (0, 0) ∧ nz (0, 0) := ⟨fN0, fun _ => rfl⟩
  unfold woZ
  (repeat' split) <;> first | exact n0 | exact fS_N _ _
end SEBV
