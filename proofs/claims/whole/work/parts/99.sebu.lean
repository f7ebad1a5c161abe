/-! RULES: words of the sea -/
section SEBU
variable {d e : Nat} {I J : Nat → Nat → Int32} {L L' : Nat → Nat → Int64} {pa pb pu pw : Option Nat} {m : Nat → Int32} {k : Bool} {N o r : Nat} {ans : Int32} {b c : Int}
def restC (m : Nat → Int32) (o : Nat) (b c : Int) (I : Nat → Nat → Int32) (L : Nat → Nat → Int64) : Prop := tdP m o b c L ∧ (∀ p, p < 16 → hasL m o p → I 67 p = vI (liqL m p b c)) ∧ ∀ s, s < 16 → L 68 s = lI (lD m o (seaL m o (WT m o) b c) b c s)
def restR (m : Nat → Int32) (o : Nat) (b c : Int) (J : Nat → Nat → Int32) (L' : Nat → Nat → Int64) : Prop := (J 0 66 = vI (seaL m o (WT m o) b c) ∧ J 0 67 = vI b ∧ J 0 68 = vI c) ∧ (L' 0 65 = lI (VA m o 0 b c) ∧ L' 38 0 = lI (XA m o 1 b c) ∧ L' 38 1 = lI (XA m o 2 b c) ∧ L' 38 2 = lI (XA m o 3 b c)) ∧ (∀ s, s < 16 → L' 39 s = lI (lD m o (seaL m o (WT m o) b c) b c s)) ∧ (∀ i, i < 256 → J 42 i = vI (wtr m (seaL m o (WT m o) b c) b c i)) ∧ (∀ p, p < 16 → hasL m o p → J 43 p = vI (liqL m p b c)) ∧ ∀ k, k ≤ 16 → L' 40 k = lI (fOr m o (seaL m o (WT m o) b c) b c k) ∧ L' 41 k = lI (bEn m o (seaL m o (WT m o) b c) b c k)
/-- the numbers of a sea -/
def seaD (m : Nat → Int32) (o r : Nat) (ans : Int32) (b c : Int) : Prop := o < 65536 ∧ r ≤ 16 ∧ (ans = 1 ∨ ans = 2 ∨ (ans = 0 ∧ (-2048 ≤ c ∧ c ≤ 2048) ∧ (-2048 ≤ b ∧ b ≤ 2048) ∧ (-200001 ≤ seaL m o (WT m o) b c ∧ seaL m o (WT m o) b c ≤ 200001)))
/-- the first one's half -/
def cH (m : Nat → Int32) (k : Bool) (N o r : Nat) (ans : Int32) (b c : Int) (I J : Nat → Nat → Int32) (L : Nat → Nat → Int64) : Prop := nearK I ∧ turK N I ∧ (I 75 0 = 0 ∧ I 77 0 = 0 ∧ I 79 0 = 0) ∧ if k = false then I 60 2 = 0 else I 60 2 = 1 ∧ seaC m o I J L ∧ memK m o I L ∧ (L 61 0 = ans.toInt64 ∧ L 61 1 = (nI r).toInt64 ∧ L 61 2 = (nI o).toInt64 ∧ L 61 3 = lI (WT m o) ∧ L 61 4 = lI (VW m o 0 200000 0 0)) ∧ (ans = 0 → restC m o b c I L)
/-- the second one's half -/
def rH (m : Nat → Int32) (k : Bool) (o r : Nat) (ans : Int32) (b c : Int) (I J : Nat → Nat → Int32) (L' : Nat → Nat → Int64) : Prop := (L' 40 0 = 0 ∧ L' 41 0 = 0) ∧ if k = false then J 0 59 = 0 else J 0 59 = 1 ∧ rfS m o I J L' ∧ (J 0 60 = ans ∧ J 0 61 = nI r ∧ L' 0 64 = lI (VW m o 0 200000 0 0)) ∧ (ans = 0 → restR m o b c J L')
theorem sea_split (h : seaT m N I J L L') : ∃ k o r ans b c, (k = true → seaD m o r ans b c) ∧ cH m k N o r ans b c I J L ∧ rH m k o r ans b c I J L' := by
  obtain ⟨n1, n2, n3, n4, n5⟩ := h
  rcases n5 with ⟨z1, z2⟩ | ⟨z1, z2, o, r, ans, y1, y2, y3, y4, y5, y6, y7, y8⟩
  · refine ⟨false, 0, 0, 0, 0, 0, fun h => absurd h (by decide), ⟨n1, n2, n3, ?_⟩, ⟨n4, ?_⟩⟩
    · rw [if_pos rfl]; exact z1
    · rw [if_pos rfl]; exact z2
  · have mk : ∀ b c, (ans = 0 → restP m o b c I J L L') → (ans = 1 ∨ ans = 2 ∨ ans = 0) → ∃ k o r ans b c, (k = true → seaD m o r ans b c) ∧ cH m k N o r ans b c I J L ∧ rH m k o r ans b c I J L' := by
      intro b c hr ha
      refine ⟨true, o, r, ans, b, c, fun _ => ⟨y1, y2, ?_⟩, ⟨n1, n2, n3, ?_⟩, ⟨n4, ?_⟩⟩
      · rcases ha with z | z | z
        · exact Or.inl z
        · exact Or.inr (Or.inl z)
        · obtain ⟨p1, p2, p3, -⟩ := hr z
          exact Or.inr (Or.inr ⟨z, p1, p2, p3⟩)
      · rw [if_neg (by decide)]
        refine ⟨z1, y3, y4, y6, fun z => ?_⟩
        obtain ⟨p1, p2, p3, p4, p5, p6, p7, p8, p9, p10, p11⟩ := hr z
        exact ⟨p4, p5, fun s hs => (p8 s hs).1⟩
      · rw [if_neg (by decide)]
        refine ⟨z2, y5, y7, fun z => ?_⟩
        obtain ⟨p1, p2, p3, p4, p5, p6, p7, p8, p9, p10, p11⟩ := hr z
        exact ⟨p6, p7, fun s hs => (p8 s hs).2, p9, p10, p11⟩
    rcases y8 with z | z | ⟨z, c, b, hr⟩
    · exact mk 0 0 (fun y => by rw [z] at y; exact absurd y (by decide)) (Or.inl z)
    · exact mk 0 0 (fun y => by rw [z] at y; exact absurd y (by decide)) (Or.inr (Or.inl z))
    · exact mk b c (fun _ => hr) (Or.inr (Or.inr z))
theorem sea_join (hd : k = true → seaD m o r ans b c) (h1 : cH m k N o r ans b c I J L) (h2 : rH m k o r ans b c I J L') : seaT m N I J L L' := by
  obtain ⟨n1, n2, n3, h1⟩ := h1
  obtain ⟨n4, h2⟩ := h2
  refine ⟨n1, n2, n3, n4, ?_⟩
  cases k with
  | false =>
    rw [if_pos rfl] at h1 h2
    exact Or.inl ⟨h1, h2⟩
  | true =>
    rw [if_neg (by decide)] at h1 h2
    obtain ⟨z1, y3, y4, y6, hC⟩ := h1
    obtain ⟨z2, y5, y7, hR⟩ := h2
    obtain ⟨d1, d2, d3⟩ := hd rfl
    refine Or.inr ⟨z1, z2, o, r, ans, d1, d2, y3, y4, y5, y6, y7, ?_⟩
    rcases d3 with z | z | ⟨z, q1, q2, q3⟩
    · exact Or.inl z
    · exact Or.inr (Or.inl z)
    · obtain ⟨c1, c2, c3⟩ := hC z
      obtain ⟨r1, r2, r3, r4, r5, r6⟩ := hR z
      exact Or.inr (Or.inr ⟨z, c, b, q1, q2, q3, c1, c2, r1, r2, fun s hs => ⟨c3 s hs, r3 s hs⟩, r4, r5, r6⟩)
/-- whether a known sea rests -/
def rsB (k : Bool) (ans : Int32) : Bool := k && decide (ans = 0)
theorem rests_c1 (hd : k = true → seaD m o r ans b c) (h1 : cH m k N o r ans b c I J L) : jv d 96 0 [some (.ref 60)] [] (shC, I, L, pX pa pb pu pw) = some (some (.int (if rsB k ans = true then 1 else 0)), (shC, I, L, pX pa pb pu pw)) := by
  obtain ⟨n1, n2, n3, h1⟩ := h1
  cases k with
  | false =>
    rw [if_pos rfl] at h1
    rw [B96_0, if_pos h1, B96_22, B96_23, if_pos bl_0]; rfl
  | true =>
    rw [if_neg (by decide)] at h1
    obtain ⟨z1, y3, y4, ⟨y6, -⟩, hC⟩ := h1
    rw [B96_0, if_neg (by rw [z1]; decide), if_pos (by decide), show (0 : Int32).toNatClampNeg = 0 from rfl, y6]
    by_cases z : ans = 0
    · rw [if_pos ((lcmp_0 _).mpr (by rw [z]; rfl)), B96_23, if_pos bl_1, if_pos (show rsB true ans = true by unfold rsB; rw [z]; rfl)]
    · rw [if_neg (fun y => z (by
        have := (lcmp_0 _).mp y
        rcases (hd rfl).2.2 with q | q | q
        · rw [q] at this; exact absurd this (by decide)
        · rw [q] at this; exact absurd this (by decide)
        · exact q.1)), B96_22, B96_23, if_pos bl_0, if_neg (by unfold rsB; rw [decide_eq_false z]; decide)]
theorem rests_r1 (h2 : rH m k o r ans b c I J L') : jv e 292 0 [some (.ref 0)] [] (shR, J, L, pR) = some (some (.int (if rsB k ans = true then 1 else 0)), (shR, J, L, pR)) := by
  obtain ⟨n4, h2⟩ := h2
  cases k with
  | false =>
    rw [if_pos rfl] at h2
    rw [B292_0, if_pos h2, B292_18, B292_19, if_pos bl_0]; rfl
  | true =>
    rw [if_neg (by decide)] at h2
    obtain ⟨z2, y5, ⟨y7, -⟩, hR⟩ := h2
    rw [B292_0, if_neg (by rw [z2]; decide), y7]
    by_cases z : ans = 0
    · rw [if_pos z, B292_19, if_pos bl_1, if_pos (show rsB true ans = true by unfold rsB; rw [z]; rfl)]
    · rw [if_neg z, B292_18, B292_19, if_pos bl_0, if_neg (by unfold rsB; rw [decide_eq_false z]; decide)]
/-- the yard's first words -/
noncomputable def wdZ (m : Nat → Int32) (k : Bool) (o r : Nat) (ans : Int32) (b c : Int) (w : Nat) : Int × Int := if rsB k ans = true then (if w = 0 then fS (seaL m o (WT m o) b c) 64 else if w = 1 then fS b 64 else if w = 2 then fS c 64 else if w = 3 then fS (VA m o 0 b c) 1024 else if w = 4 then fS (WT m o) 1024 else fS r 1) else (0, 0)
theorem fS_N (x y : Int) : fN (fS x y) ∧ nz (fS x y) := ⟨fS_b x y, fS_nz x y⟩
theorem wdZ_b {w : Nat} : fN (wdZ m k o r ans b c w) ∧ nz (wdZ m k o r ans b c w) := by
  unfold wdZ
  split
  · (repeat' split) <;> exact fS_N _ _
  · exact ⟨fN0, fun _ => rfl⟩
theorem fqC_2 (p q : Int × Int) : fqC (fqC L p) q = fqC L q := by
  unfold fqC
  funext x y
  by_cases z : x = 116
  · subst z
    rw [j_up_own, j_up_own, j_up_own, j_up_own, j_up_own, j_up_own]
    by_cases z7 : y = 7
    · rw [if_pos z7, if_pos z7]
    · by_cases z6 : y = 6
      · rw [if_neg z7, if_pos z6, if_neg z7, if_pos z6]
      · rw [if_neg z7, if_neg z6, if_neg z7, if_neg z6, if_neg z7, if_neg z6]
  · rw [j_up_cell _ z, j_up_cell _ z, j_up_cell _ z, j_up_cell _ z, j_up_cell _ z, j_up_cell _ z]
theorem fqR_2 (p q : Int × Int) : fqR (fqR L p) q = fqR L q := by
  unfold fqR
  funext x y
  by_cases z : x = 0
  · subst z
    rw [j_up_own, j_up_own, j_up_own, j_up_own, j_up_own, j_up_own]
    by_cases z7 : y = 55
    · rw [if_pos z7, if_pos z7]
    · by_cases z6 : y = 54
      · rw [if_neg z7, if_pos z6, if_neg z7, if_pos z6]
      · rw [if_neg z7, if_neg z6, if_neg z7, if_neg z6, if_neg z7, if_neg z6]
  · rw [j_up_cell _ z, j_up_cell _ z, j_up_cell _ z, j_up_cell _ z, j_up_cell _ z, j_up_cell _ z]
theorem fqC_cl (p : Int × Int) {x : Nat} (h : x ≠ 116) : fqC L p x = L x := by unfold fqC; rw [j_up_cell _ h, j_up_cell _ h]
theorem fqR_cl (p : Int × Int) {x : Nat} (h : x ≠ 0) : fqR L p x = L x := by unfold fqR; rw [j_up_cell _ h, j_up_cell _ h]
theorem fqR_0 (p : Int × Int) {q : Nat} (h1 : q ≠ 54) (h2 : q ≠ 55) : fqR L p 0 q = L 0 q := by unfold fqR; rw [j_up_own, if_neg h2, j_up_own, if_neg h1]
/-- longs of the sums alone: the sea doesn't see them -/
theorem cH.fq (h : cH m k N o r ans b c I J L) (p : Int × Int) : cH m k N o r ans b c I J (fqC L p) := by
  obtain ⟨n1, n2, n3, h1⟩ := h
  refine ⟨n1, n2, n3, ?_⟩
  cases k with
  | false => exact h1
  | true =>
    rw [if_neg (by decide)] at h1 ⊢
    obtain ⟨z1, y3, y4, y6, hC⟩ := h1
    have c61 : fqC L p 61 = L 61 := fqC_cl p (by decide)
    refine ⟨z1, y3.gen rfl rfl rfl (fun _ _ _ => rfl) n1 (by rw [fqC_cl p (by decide)]) (fun x hx => fqC_cl p (by omega)), fun i hi hk => by rw [fqC_cl p (by decide)]; exact y4 i hi hk, by rw [c61]; exact y6, fun z => ?_⟩
    obtain ⟨c1, c2, c3⟩ := hC z
    refine ⟨?_, c2, fun s hs => by rw [fqC_cl p (by decide)]; exact c3 s hs⟩
    unfold tdP
    rw [c61]; exact c1
theorem word_c0 (hd : k = true → seaD m o r ans b c) (h1 : cH m k N o r ans b c I J L) {w : Nat} (hw : w < 6) : jv (d + 3) 155 0 [some (.ref 116), some (.int (nI w))] [] (shC, I, L, pX pa pb pu pw) = some (none, (shC, I, fqC L (wdZ m k o r ans b c w), pX pa pb pu pw)) := by
  have ne : ∀ x : Nat, 6 ≤ x → x < 20 → ¬ nI w = Int32.ofInt x := fun x h1 h2 y => by
    have := (nI_eq (a := w) (b := x) (by omega) (by omega)).mp y
    omega
  have inner : jv (d + 2) 156 0 [some (.ref 116), some (.int (nI w))] [] (shC, I, L, pX pa pb pu pw) = some (none, (shC, I, fqC L (wdZ m k o r ans b c w), pX pa pb pu pw)) := by
    rw [B156_0, jgo_some (d := d + 1) rfl und_c]
    dsimp only [Option.toList_some, Option.toList_none, List.cons_append, List.nil_append]
    rw [B156_4, jgo_some (d := d + 1) rfl (rests_c1 hd (h1.fq (0, 0)))]
    dsimp only [Option.toList_some, Option.toList_none, List.cons_append, List.nil_append]
    rw [B156_11]
    unfold wdZ
    by_cases z : rsB k ans = true
    case neg => rw [if_neg z, if_neg z, if_pos rfl]
    obtain ⟨-, -, -, h1⟩ := h1
    have k1 : k = true := by
      cases k with
      | false => exact absurd z (by unfold rsB; simp)
      | true => rfl
    subst k1
    have a0 : ans = 0 := by unfold rsB at z; simpa using z
    obtain ⟨-, r16, d3⟩ := hd rfl
    obtain ⟨-, q1, q2, q3⟩ := (d3.resolve_left (by rw [a0]; decide)).resolve_left (by rw [a0]; decide)
    rw [if_neg (by decide)] at h1
    obtain ⟨z1, y3, y4, ⟨t0, t1, t2, t3, t4⟩, hC⟩ := h1
    obtain ⟨⟨u5, u6, u7, u8, -⟩, -⟩ := hC a0
    have wb := WT_b y3.1.1 o
    have vb : 0 ≤ VA m o 0 b c ∧ VA m o 0 b c ≤ 524288000 := VW_b y3.1.1 y3.1.2.1 y3.1.2.2.1 _ _ _
    rw [if_pos z, if_pos z, if_neg (show ¬ (1 : Int32) = 0 by decide), fqC_cl (0, 0) (show (61 : Nat) ≠ 116 by decide), show (5 : Int32).toNatClampNeg = 5 from rfl, show (6 : Int32).toNatClampNeg = 6 from rfl, show (7 : Int32).toNatClampNeg = 7 from rfl, show (8 : Int32).toNatClampNeg = 8 from rfl, show (3 : Int32).toNatClampNeg = 3 from rfl, show (1 : Int32).toNatClampNeg = 1 from rfl, u5, u6, u7, u8, t3, t1, nI64 (by omega)]
    have st : ∀ (z y : Int) (K : Option Value → jS → jO), -9223372036854775808 ≤ z → z < 9223372036854775808 → -9223372036854775808 ≤ y → y < 9223372036854775808 → jgo jTT jMM (d + 2) 162 [.ref 116, .long (lI z), .long (lI y)] (shC, I, fqC L (0, 0), pX pa pb pu pw) K = K none (shC, I, fqC L (fS z y), pX pa pb pu pw) := by
      intro z y K h1 h2 h3 h4
      have := set_c (d := d) (I := I) (L := fqC L (0, 0)) (pa := pa) (pb := pb) (pu := pu) (pw := pw) (lI z) (lI y)
      rw [lI_toInt h1 h2, lI_toInt h3 h4, fqC_2] at this
      exact jgo_some (d := d + 1) rfl this
    rw [show (64 : Int64) = lI 64 from rfl, show (1024 : Int64) = lI 1024 from rfl, show (1 : Int64) = lI 1 from rfl, st _ 64 _ (by omega) (by omega) (by omega) (by omega), st _ 64 _ (by omega) (by omega) (by omega) (by omega), st _ 64 _ (by omega) (by omega) (by omega) (by omega), st _ 1024 _ (by omega) (by omega) (by omega) (by omega), st _ 1024 _ (by omega) (by omega) (by omega) (by omega), st _ 1 _ (by omega) (by omega) (by omega) (by omega)]
    dsimp only [Option.toList_some, Option.toList_none, List.cons_append, List.nil_append]
    rw [B156_68, B156_88, B156_108, B156_128, B156_147]
    have : w = 0 ∨ w = 1 ∨ w = 2 ∨ w = 3 ∨ w = 4 ∨ w = 5 := by omega
    rcases this with rfl | rfl | rfl | rfl | rfl | rfl <;> simp (decide := true) only [↓reduceIte, B156_164]
  rw [B155_0, if_neg (show ¬ nI w = Int32.ofInt (6) from ne 6 (by decide) (by decide)), if_neg (show ¬ nI w = Int32.ofInt (7) from ne 7 (by decide) (by decide)), if_neg (show ¬ nI w = Int32.ofInt (8) from ne 8 (by decide) (by decide)), if_neg (show ¬ nI w = Int32.ofInt (9) from ne 9 (by decide) (by decide)), if_neg (show ¬ nI w = Int32.ofInt (10) from ne 10 (by decide) (by decide)), if_neg (show ¬ nI w = Int32.ofInt (11) from ne 11 (by decide) (by decide)), if_neg (show ¬ nI w = Int32.ofInt (12) from ne 12 (by decide) (by decide)), jgo_some (d := d + 2) rfl inner]
  dsimp only [Option.toList_some, Option.toList_none, List.cons_append, List.nil_append]
  rw [B155_265]
end SEBU
