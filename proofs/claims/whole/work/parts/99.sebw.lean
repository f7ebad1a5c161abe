/-! RULES: words of something that ask the sea -/
section SEBW
variable {d e : Nat} {I J : Nat → Nat → Int32} {L L' : Nat → Nat → Int64} {pa pb pu pw : Option Nat} {m : Nat → Int32} {k : Bool} {N o r : Nat} {ans : Int32} {b c : Int}
/-- up to the lever -/
theorem wo_pre87 {w : Nat} (hw : w ≤ 10) (h : mQ m I J) {p : Int × Int} (hp : fN p) (h6 : L 116 6 = lI p.1) (h7 : L 116 7 = lI p.2) : jv (d + 2) 157 0 [some (.ref 116), some (.int (nI (13 + w))), none, none, none, none, none, none, none, none] [] (shC, I, L, pX pa pb pu pw) = if p.2 = 1 ∧ -2048 ≤ p.1 ∧ p.1 ≤ 2048 then jv (d + 2) 157 87 [some (.ref 116), some (.int (nI (13 + w))), some (.long (lI p.1)), none, some (.int 1), some (.int (lI p.1).toInt32), some (.int (if isSl (lI p.1).toInt32 then 1 else 0)), none, none, none] [.int (if 0 < kdS m (lI p.1).toInt32 then 1 else 0)] (shC, I, fqC L (0, 0), pX pa pb pu pw) else some (none, (shC, I, fqC L (0, 0), pX pa pb pu pw)) := by
  have go : ∀ y : Int32, jv (d + 2) 157 19 [some (.ref 116), some (.int (nI (13 + w))), some (.long (lI p.1)), none, none, none, none, none, none, none] [.int y] (shC, I, L, pX pa pb pu pw) = jv (d + 2) 157 25 [some (.ref 116), some (.int (nI (13 + w))), some (.long (lI p.1)), none, some (.int y), none, none, none, none, none] [] (shC, I, fqC L (0, 0), pX pa pb pu pw) := by
    intro y
    rw [B157_19, jgo_some (d := d + 1) rfl und_c]
    rfl
  rw [B157_0, h6, h7]
  by_cases a : p.2 = 1
  case neg =>
    rw [if_neg (fun y => a ((is1' hp).mp y)), go, B157_25, if_pos rfl, B157_46, if_neg (fun y => a y.1)]
  rw [if_pos ((is1' hp).mpr a), go, B157_25, if_neg (by decide)]
  by_cases b : p.1 < -2048
  · rw [if_pos ((lcmp_neg _ _).mpr (by rw [hp.1.i]; exact b)), B157_46, if_neg (fun y => by omega)]
  rw [if_neg (fun y => b (by have := (lcmp_neg _ _).mp y; rw [hp.1.i] at this; exact this))]
  by_cases c : 2048 < p.1
  · rw [if_pos ((lcmp_pos _ _).mpr (by rw [hp.1.i]; exact c)), B157_46, if_neg (fun y => by omega)]
  rw [if_neg (fun y => c (by have := (lcmp_pos _ _).mp y; rw [hp.1.i] at this; exact this)), if_pos (show p.2 = 1 ∧ -2048 ≤ p.1 ∧ p.1 ≤ 2048 from ⟨a, by omega, by omega⟩)]
  have fin : ∀ y : Int32, jv (d + 2) 157 68 [some (.ref 116), some (.int (nI (13 + w))), some (.long (lI p.1)), none, some (.int 1), some (.int (lI p.1).toInt32), none, none, none, none] [.int y] (shC, I, fqC L (0, 0), pX pa pb pu pw) = jv (d + 2) 157 87 [some (.ref 116), some (.int (nI (13 + w))), some (.long (lI p.1)), none, some (.int 1), some (.int (lI p.1).toInt32), some (.int y), none, none, none] [.int (if 0 < kdS m (lI p.1).toInt32 then 1 else 0)] (shC, I, fqC L (0, 0), pX pa pb pu pw) := by
    intro y
    rw [B157_68, jgo_some (d := d + 1) rfl (kindS_c (d := d) h _)]
    dsimp only [Option.toList_some, Option.toList_none, List.cons_append, List.nil_append]
    rw [B157_79]
    by_cases z : 0 < kdS m (lI p.1).toInt32
    · rw [if_pos z, if_pos z]
    · rw [if_neg z, if_neg z]
  by_cases u : (lI p.1).toInt32 < 0
  · rw [if_pos u, B157_67, fin, if_neg (show ¬ isSl (lI p.1).toInt32 from fun y => y.1 u)]
  rw [if_neg u]
  by_cases v : (lI p.1).toInt32 < 16
  · rw [if_pos v, fin, if_pos (show isSl (lI p.1).toInt32 from ⟨u, v⟩)]
  · rw [if_neg v, B157_67, fin, if_neg (show ¬ isSl (lI p.1).toInt32 from fun y => v y.2)]
theorem cH.lev {I1 : Nat → Nat → Int32} {L1 : Nat → Nat → Int64} (h : cH m true N o r ans b c I J L) (f : leF I I1 L L1) (fm : memK m o I1 L1) (ft : turK N I1) : cH m true N o r ans b c I1 J L1 := by
  obtain ⟨z1, y3, y4, y6, hC⟩ := h.known
  obtain ⟨n1, n2, n3, -⟩ := h
  obtain ⟨f1, f2, f3, f4⟩ := id f
  have fI : ∀ x, (x < 69 ∨ 71 < x) → x ≠ 82 → I1 x = I x := fun x h1 h2 => f1 x (by omega) (by omega) h2
  refine ⟨f2, ft, by rw [fI 75 (by decide) (by decide), fI 77 (by decide) (by decide), fI 79 (by decide) (by decide)]; exact n3, ?_⟩
  rw [if_neg (by decide)]
  have l61 : L1 61 = L 61 := f3 61 (by decide) (by decide) (by decide) (by decide)
  refine ⟨by rw [fI 60 (by decide) (by decide)]; exact z1, y3.frl f, fm, by rw [l61]; exact y6, fun z => ?_⟩
  obtain ⟨c1, c2, c3⟩ := hC z
  refine ⟨?_, fun p hp hl => by rw [fI 67 (by decide) (by decide)]; exact c2 p hp hl, fun s hs => by rw [f3 68 (by decide) (by decide) (by decide) (by decide)]; exact c3 s hs⟩
  unfold tdP
  rw [l61]; exact c1
theorem mul15 {x : Int} (hx : -2048 ≤ x ∧ x ≤ 2048) {n : Nat} (hn : n < 16) : -30720 ≤ x * (2 * (n : Int) - 15) ∧ x * (2 * (n : Int) - 15) ≤ 30720 := by
  have : n = 0 ∨ n = 1 ∨ n = 2 ∨ n = 3 ∨ n = 4 ∨ n = 5 ∨ n = 6 ∨ n = 7 ∨ n = 8 ∨ n = 9 ∨ n = 10 ∨ n = 11 ∨ n = 12 ∨ n = 13 ∨ n = 14 ∨ n = 15 := by omega
  rcases this with z | z | z | z | z | z | z | z | z | z | z | z | z | z | z | z <;> subst z <;> omega
theorem setN (z y : Int) (h1 : -9223372036854775808 ≤ z) (h2 : z < 9223372036854775808) (h3 : -9223372036854775808 ≤ y) (h4 : y < 9223372036854775808) (q : Int × Int) (K : Option Value → jS → jO) : jgo jTT jMM (d + 2) 162 [.ref 116, .long (lI z), .long (lI y)] (shC, I, fqC L q, pX pa pb pu pw) K = K none (shC, I, fqC L (fS z y), pX pa pb pu pw) := by
  have := set_c (d := d) (I := I) (L := fqC L q) (pa := pa) (pb := pb) (pu := pu) (pw := pw) (lI z) (lI y)
  rw [lI_toInt h1 h2, lI_toInt h3 h4, fqC_2] at this
  exact jgo_some (d := d + 1) rfl this
theorem woZ_c (hd : k = true → seaD m o r ans b c) (h : mQ m I J) (h1 : cH m k N o r ans b c I J L) {w : Nat} (hw : w < 4) {p : Int × Int} (hp : fN p) (h6 : L 116 6 = lI p.1) (h7 : L 116 7 = lI p.2) : ∃ I' L1, leF I I' (fqC L (0, 0)) L1 ∧ cH m k N o r ans b c I' J L1 ∧ jv (d + 5) 157 0 [some (.ref 116), some (.int (nI (13 + w))), none, none, none, none, none, none, none, none] [] (shC, I, L, pX pa pb pu pw) = some (none, (shC, I', fqC L1 (woZ m k o ans b c w p), pX pa pb pu pw)) := by
  have h1' := h1.fq (0, 0)
  have fz : fqC (fqC L (0, 0)) (0, 0) = fqC L (0, 0) := fqC_2 _ _
  have stay : woZ m k o ans b c w p = (0, 0) → ∀ X : jO, X = some (none, (shC, I, fqC L (0, 0), pX pa pb pu pw)) → ∃ I' L1, leF I I' (fqC L (0, 0)) L1 ∧ cH m k N o r ans b c I' J L1 ∧ X = some (none, (shC, I', fqC L1 (woZ m k o ans b c w p), pX pa pb pu pw)) := fun hz X hX => ⟨I, fqC L (0, 0), leF.rfl' h1.1, h1', by rw [hz, fz]; exact hX⟩
  rw [wo_pre87 (d := d + 3) (by omega) h hp h6 h7]
  by_cases q0 : p.2 = 1 ∧ -2048 ≤ p.1 ∧ p.1 ≤ 2048
  case neg =>
    rw [if_neg q0]
    refine stay ?_ _ rfl
    unfold woZ
    by_cases z : p.2 = 1 ∧ rsB k ans = true
    · rw [if_pos z]
      have nr : ¬ (-2048 ≤ p.1 ∧ p.1 ≤ 2048) := fun y => q0 ⟨z.1, y⟩
      rw [if_neg nr, if_neg (show ¬ (0 ≤ p.1 ∧ p.1 ≤ 15) by omega), if_neg (show ¬ (0 ≤ p.1 ∧ p.1 ≤ 16) by omega), if_neg (show ¬ (0 ≤ p.1 ∧ p.1 ≤ 16) by omega)]
      (repeat' split) <;> rfl
    · rw [if_neg z]
  rw [if_pos q0]
  obtain ⟨p2, pr⟩ := q0
  have e32 : (lI p.1).toInt32 = vI p.1 := l32 (by omega) (by omega)
  have rs := rests_c1 (d := d + 4) (pa := pa) (pb := pb) (pu := pu) (pw := pw) hd h1'
  rw [e32, B157_87]
  have eqn : ∀ x : Nat, x < 40 → (nI (13 + w) = Int32.ofInt x ↔ 13 + w = x) := fun x hx => nI_eq (by omega) (by omega)
  by_cases w3 : w = 3
  · subst w3
    rw [if_pos (show nI (13 + 3) = 16 from rfl), jgo_some (d := d + 4) rfl rs]
    dsimp only [Option.toList_some, Option.toList_none, List.cons_append, List.nil_append]
    rw [B157_102]
    by_cases z : rsB k ans = true
    case neg =>
      rw [if_neg z, if_pos rfl, B157_117, B157_120, if_neg (show ¬ nI (13 + 3) = Int32.ofInt 13 by decide), if_neg (show ¬ nI (13 + 3) = Int32.ofInt 14 by decide), if_neg (show ¬ nI (13 + 3) = Int32.ofInt 15 by decide), if_pos (show nI (13 + 3) = Int32.ofInt 16 by decide), if_pos (show lg_cmp (-9223372036854775808) (-9223372036854775808) = 0 from (lcmp_e _ _).mpr rfl), B157_222]
      refine stay (by unfold woZ; rw [if_neg (fun y => z y.2)]) _ ?_
      have := set0 (d := d + 3) (I := I) (L := fqC L (0, 0)) (pa := pa) (pb := pb) (pu := pu) (pw := pw) (-9223372036854775808)
      rw [fz] at this
      rw [jgo_some (d := d + 4) rfl this]
      dsimp only [Option.toList_some, Option.toList_none, List.cons_append, List.nil_append]
      rw [B157_225, B157_439]
    · obtain ⟨k1, a0, r16, qc, qb, qa⟩ := rsB_t hd z
      subst k1
      obtain ⟨z1, y3, y4, y6, hC⟩ := h1'.known
      obtain ⟨I1, L1, f1, f2, f3, -, f5⟩ := lever_c (d := d + 1) (pa := pa) (pb := pb) (pu := pu) (pw := pw) y3 y4 h1.2.1 pr
      refine ⟨I1, L1, f1, h1'.lev f1 f2 f3, ?_⟩
      rw [if_pos z, if_neg (show ¬ (1 : Int32) = 0 by decide), jgo_some (d := d + 4) rfl f5]
      dsimp only [Option.toList_some, Option.toList_none, List.cons_append, List.nil_append]
      rw [B157_114, B157_120, if_neg (show ¬ nI (13 + 3) = Int32.ofInt 13 by decide), if_neg (show ¬ nI (13 + 3) = Int32.ofInt 14 by decide), if_neg (show ¬ nI (13 + 3) = Int32.ofInt 15 by decide), if_pos (show nI (13 + 3) = Int32.ofInt 16 by decide)]
      have fin : ∀ (x y : Int64), woZ m true o ans b c 3 p = fS x.toInt y.toInt → jv (d + 5) 157 222 [some (.ref 116), some (.int (nI (13 + 3))), some (.long (lI p.1)), none, some (.int 1), some (.int (vI p.1)), some (.int (if isSl (vI p.1) then 1 else 0)), some (.int (if 0 < kdS m (vI p.1) then 1 else 0)), some (.long (lvV m o p.1)), none] [.long y, .long x, .ref 116] (shC, I1, L1, pX pa pb pu pw) = some (none, (shC, I1, fqC L1 (woZ m true o ans b c 3 p), pX pa pb pu pw)) := by
        intro x y hxy
        rw [B157_222, jgo_some (d := d + 4) rfl (set_c (d := d + 3) x y)]
        dsimp only [Option.toList_some, Option.toList_none, List.cons_append, List.nil_append]
        rw [B157_225, B157_439, hxy]
      have vz : woZ m true o ans b c 3 p = match tR m o p.1 with | none => (0, 0) | some bb => fS (tU m o bb p.1).toInt 1 := by
        unfold woZ
        rw [if_pos ⟨p2, z⟩, if_neg (by decide), if_neg (by decide), if_neg (by decide), if_pos pr]
        all_goals rfl
      have minS : fS (-9223372036854775808 : Int64).toInt 1 = (0, 0) := by
        unfold fS
        rw [if_neg]
        rw [show (-9223372036854775808 : Int64).toInt = -9223372036854775808 by decide]
        have hH : HG = 1000000000000000000 := rfl
        rw [hH]
        omega
      by_cases q : lvV m o p.1 = -9223372036854775808
      · rw [if_pos ((lcmp_e _ _).mpr q)]
        refine fin _ 0 ?_
        rw [show (0 : Int64).toInt = 0 from rfl, fS_0, vz]
        unfold lvV at q
        cases ht : tR m o p.1 with
        | none => rfl
        | some bb =>
          rw [ht] at q
          dsimp only at q ⊢
          rw [q, minS]
      · rw [if_neg (fun y => q ((lcmp_e _ _).mp y))]
        refine fin _ 1 ?_
        rw [show (1 : Int64).toInt = 1 from rfl, vz]
        unfold lvV at q ⊢
        cases ht : tR m o p.1 with
        | none => rw [ht] at q; exact absurd rfl q
        | some bb => rfl
  · rw [if_neg (show ¬ nI (13 + w) = 16 from fun y => w3 (by have := (eqn 16 (by decide)).mp y; omega)), B157_117, B157_120]
    have hw3 : w = 0 ∨ w = 1 ∨ w = 2 := by omega
    -- what the three leave
    have done : ∀ X : Int × Int, woZ m k o ans b c w p = X → ∀ Y : jO, Y = some (none, (shC, I, fqC L X, pX pa pb pu pw)) → ∃ I' L1, leF I I' (fqC L (0, 0)) L1 ∧ cH m k N o r ans b c I' J L1 ∧ Y = some (none, (shC, I', fqC L1 (woZ m k o ans b c w p), pX pa pb pu pw)) := fun X hX Y hY => ⟨I, fqC L (0, 0), leF.rfl' h1.1, h1', by rw [hX, fqC_2]; exact hY⟩
    have i0 : ∀ x : Int, -2048 ≤ x → x ≤ 2048 → (vI x < 0 ↔ x < 0) := fun x h1 h2 => vI_lt (b := 0) (by omega) (by omega) (by omega) (by omega)
    have i16 : vI p.1 < 16 ↔ p.1 < 16 := vI_lt (b := 16) (by omega) (by omega) (by omega) (by omega)
    have j16 : (16 : Int32) < vI p.1 ↔ 16 < p.1 := vI_lt (a := 16) (by omega) (by omega) (by omega) (by omega)
    have base : ∀ (t : Nat), w = t → woZ m k o ans b c w p = if rsB k ans = true then (if t = 0 then (if 0 ≤ p.1 ∧ p.1 ≤ 15 then fS (seaL m o (WT m o) b c + b * (2 * p.1 - 15)) 64 else (0, 0)) else if t = 1 then (if 0 ≤ p.1 ∧ p.1 ≤ 16 then fS (lI (fOr m o (seaL m o (WT m o) b c) b c p.1.toNat)).toInt 1024 else (0, 0)) else (if 0 ≤ p.1 ∧ p.1 ≤ 16 then fS (lI (bEn m o (seaL m o (WT m o) b c) b c p.1.toNat)).toInt 1024 else (0, 0))) else (0, 0) := by
      intro t ht
      subst ht
      unfold woZ
      by_cases z : rsB k ans = true
      · rw [if_pos ⟨p2, z⟩, if_pos z]
        rcases hw3 with u | u | u <;> rw [u] <;> rfl
      · rw [if_neg (fun y => z y.2), if_neg z]
    -- forces and bends
    have ship : ∀ (l1 : Int32) (t : Nat), (l1 = 1 ∧ t = 1 ∨ l1 = 2 ∧ t = 2) → w = t → jv (d + 4) 159 0 [some (.ref 116), some (.int l1), some (.int (vI p.1))] [] (shC, I, fqC L (0, 0), pX pa pb pu pw) = some (none, (shC, I, fqC L (woZ m k o ans b c w p), pX pa pb pu pw)) := by
      intro l1 t hl ht
      rw [B159_0, jgo_some (d := d + 3) rfl (rests_c1 hd h1')]
      dsimp only [Option.toList_some, Option.toList_none, List.cons_append, List.nil_append]
      rw [B159_7, B159_36, base t ht]
      by_cases z : rsB k ans = true
      case neg => rw [if_neg z, if_neg z, if_pos rfl]
      rw [if_pos z, if_pos z, if_neg (show ¬ (1 : Int32) = 0 by decide)]
      have tne : ¬ t = 0 := by omega
      rw [if_neg tne]
      by_cases u1 : p.1 < 0
      · rw [if_pos ((i0 _ pr.1 pr.2).mpr u1), if_neg (show ¬ (0 ≤ p.1 ∧ p.1 ≤ 16) by omega), if_neg (show ¬ (0 ≤ p.1 ∧ p.1 ≤ 16) by omega), ite_self]
      rw [if_neg (fun y => u1 ((i0 _ pr.1 pr.2).mp y))]
      by_cases u2 : 16 < p.1
      · rw [if_pos (j16.mpr u2), if_neg (show ¬ (0 ≤ p.1 ∧ p.1 ≤ 16) by omega), if_neg (show ¬ (0 ≤ p.1 ∧ p.1 ≤ 16) by omega), ite_self]
      rw [if_neg (fun y => u2 (j16.mp y)), if_pos (show 0 ≤ p.1 ∧ p.1 ≤ 16 by omega), if_pos (show 0 ≤ p.1 ∧ p.1 ≤ 16 by omega)]
      obtain ⟨k1, a0, -⟩ := rsB_t hd z
      subst k1
      obtain ⟨-, -, -, -, hC⟩ := h1'.known
      obtain ⟨-, -, c3⟩ := hC a0
      have en : vI p.1 = nI p.1.toNat := by rw [nI_vI]; congr 1; omega
      have sc := ship_c (d := d + 3) (I := I) (pa := pa) (pb := pb) (pu := pu) (pw := pw) c3 (hl.elim (fun u => Or.inl u.1) (fun u => Or.inr u.1)) (k := p.1.toNat) (by omega)
      rw [en, jgo_some (d := d + 3) rfl sc]
      dsimp only [Option.toList_some, Option.toList_none, List.cons_append, List.nil_append]
      have set1024 : ∀ x : Int64, jv (d + 3) 162 0 [some (.ref 116), some (.long x), none, some (.long 1024), none, none, none, none, none, none, none, none] [] (shC, I, fqC L (0, 0), pX pa pb pu pw) = some (none, (shC, I, fqC L (fS x.toInt 1024), pX pa pb pu pw)) := fun x => by
        have := set_c (d := d + 2) (I := I) (L := fqC L (0, 0)) (pa := pa) (pb := pb) (pu := pu) (pw := pw) x 1024
        rw [fqC_2] at this
        exact this
      rw [B159_30, jgo_some (d := d + 3) rfl (set1024 _)]
      dsimp only [Option.toList_some, Option.toList_none, List.cons_append, List.nil_append]
      rw [B159_36]
      rcases hl with ⟨u, v⟩ | ⟨u, v⟩
      · rw [if_pos u, if_pos v]
      · rw [if_neg (by rw [u]; decide), if_neg (by omega)]
    rcases hw3 with w0 | w0 | w0
    · subst w0
      rw [if_pos (show nI (13 + 0) = Int32.ofInt 13 by decide)]
      have dr : jv (d + 4) 158 0 [some (.ref 116), some (.int (vI p.1))] [] (shC, I, fqC L (0, 0), pX pa pb pu pw) = some (none, (shC, I, fqC L (woZ m k o ans b c 0 p), pX pa pb pu pw)) := by
        rw [B158_0, jgo_some (d := d + 3) rfl (rests_c1 hd h1')]
        dsimp only [Option.toList_some, Option.toList_none, List.cons_append, List.nil_append]
        rw [B158_7, B158_55, base 0 rfl, if_pos (show (0 : Nat) = 0 from rfl)]
        by_cases z : rsB k ans = true
        case neg => rw [if_neg z, if_neg z, if_pos rfl]
        rw [if_pos z, if_pos z, if_neg (show ¬ (1 : Int32) = 0 by decide)]
        by_cases u1 : p.1 < 0
        · rw [if_pos ((i0 _ pr.1 pr.2).mpr u1), if_neg (show ¬ (0 ≤ p.1 ∧ p.1 ≤ 15) by omega)]
        rw [if_neg (fun y => u1 ((i0 _ pr.1 pr.2).mp y))]
        by_cases u2 : p.1 < 16
        case neg => rw [if_neg (fun y => u2 (i16.mp y)), if_neg (show ¬ (0 ≤ p.1 ∧ p.1 ≤ 15) by omega)]
        obtain ⟨k1, a0, r16, qc, qb, qa⟩ := rsB_t hd z
        subst k1
        obtain ⟨-, -, -, -, hC⟩ := h1'.known
        obtain ⟨⟨u5, u6, -⟩, -⟩ := hC a0
        have en : vI p.1 = nI p.1.toNat := by rw [nI_vI]; congr 1; omega
        have bb : -30720 ≤ b * (2 * p.1 - 15) ∧ b * (2 * p.1 - 15) ≤ 30720 := by
          have m15 := mul15 qb (show p.1.toNat < 16 by omega)
          rw [show ((p.1.toNat : Nat) : Int) = p.1 by omega] at m15
          exact m15
        rw [if_pos (i16.mpr u2), if_pos (by decide), if_pos (by decide), show (5 : Int32).toNatClampNeg = 5 from rfl, show (6 : Int32).toNatClampNeg = 6 from rfl, u5, u6, en, d64 (show p.1.toNat < 16 by omega), show ((p.1.toNat : Nat) : Int) = p.1 by omega, lI_mul, lI_add, show (64 : Int64) = lI 64 from rfl, setN _ 64 (by omega) (by omega) (by omega) (by omega), if_pos (show 0 ≤ p.1 ∧ p.1 ≤ 15 by omega)]
        dsimp only [Option.toList_some, Option.toList_none, List.cons_append, List.nil_append]
        rw [B158_55]
      refine done _ rfl _ ?_
      rw [jgo_some (d := d + 4) rfl dr]
      dsimp only [Option.toList_some, Option.toList_none, List.cons_append, List.nil_append]
      rw [B157_182, B157_439]
    · subst w0
      rw [if_neg (show ¬ nI (13 + 1) = Int32.ofInt 13 by decide), if_pos (show nI (13 + 1) = Int32.ofInt 14 by decide)]
      refine done _ rfl _ ?_
      rw [jgo_some (d := d + 4) rfl (ship 1 1 (Or.inl ⟨rfl, rfl⟩) rfl)]
      dsimp only [Option.toList_some, Option.toList_none, List.cons_append, List.nil_append]
      rw [B157_192, B157_439]
    · subst w0
      rw [if_neg (show ¬ nI (13 + 2) = Int32.ofInt 13 by decide), if_neg (show ¬ nI (13 + 2) = Int32.ofInt 14 by decide), if_pos (show nI (13 + 2) = Int32.ofInt 15 by decide)]
      refine done _ rfl _ ?_
      rw [jgo_some (d := d + 4) rfl (ship 2 2 (Or.inr ⟨rfl, rfl⟩) rfl)]
      dsimp only [Option.toList_some, Option.toList_none, List.cons_append, List.nil_append]
      rw [B157_202, B157_439]
end SEBW
