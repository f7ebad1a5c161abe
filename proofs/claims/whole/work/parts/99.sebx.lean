/-! RULES: words of something that ask the sea, second one -/
section SEBX
variable {d e : Nat} {I J : Nat → Nat → Int32} {L L' : Nat → Nat → Int64} {m : Nat → Int32} {k : Bool} {N o r : Nat} {ans : Int32} {b c : Int}
/-- what such a word leaves alone -/
def woF (J J' : Nat → Nat → Int32) (L L1 : Nat → Nat → Int64) : Prop := (∀ x, x ≠ 0 → J' x = J x) ∧ (∀ q, q ≠ 53 → q ≠ 86 → J' 0 q = J 0 q) ∧ (∀ x, x ≠ 0 → L1 x = L x) ∧ ∀ q, q ≠ 54 → q ≠ 55 → q < 79 ∨ 85 < q → L1 0 q = L 0 q
theorem woF.fq (p : Int × Int) : woF J J L (fqR L p) := ⟨fun _ _ => rfl, fun _ _ _ => rfl, fun x hx => fqR_cl p hx, fun q h1 h2 _ => fqR_0 p h1 h2⟩
theorem woF.trans {J1 J2 : Nat → Nat → Int32} {L1 L2 : Nat → Nat → Int64} (a : woF J J1 L L1) (b : woF J1 J2 L1 L2) : woF J J2 L L2 := ⟨fun x h => by rw [b.1 x h, a.1 x h], fun q h1 h2 => by rw [b.2.1 q h1 h2, a.2.1 q h1 h2], fun x h => by rw [b.2.2.1 x h, a.2.2.1 x h], fun q h1 h2 h3 => by rw [b.2.2.2 q h1 h2 h3, a.2.2.2 q h1 h2 h3]⟩
theorem frB.wo {J1 : Nat → Nat → Int32} {L1 : Nat → Nat → Int64} (a : frB J J1 L L1) : woF J J1 L L1 := ⟨a.1, fun q _ h => a.2.1 q h, a.2.2.1, fun q _ _ h => a.2.2.2 q h⟩
theorem woF.up (v : Int32) : woF J (j_up J 0 53 v) L L := ⟨fun x h => by rw [j_up_cell _ h], fun q h1 _ => by rw [j_up_nq _ (Or.inr h1)], fun _ _ => rfl, fun _ _ _ _ => rfl⟩
theorem rH.wo {J' : Nat → Nat → Int32} {L1 : Nat → Nat → Int64} (h : rH m k o r ans b c I J L) (f : woF J J' L L1) : rH m k o r ans b c I J' L1 := h.gen f.1 (fun q hq => f.2.1 q (by omega) (by omega)) (fun x h1 h2 => f.2.2.1 x (by omega)) (fun q h1 h2 => f.2.2.2 q (by omega) (by omega) (by omega))
theorem woZ_r (hd : k = true → seaD m o r ans b c) (h2 : rH m k o r ans b c I J L') {w : Nat} (hw : w < 4) {p : Int × Int} (hp : fN p) : ∃ J' L1, woF J J' L' L1 ∧ jv (e + 9) 293 0 [some (.ref 0), some (.int (nI w)), some (.long (lI p.1)), none, some (.long (lI p.2)), none, none, none, none, none, none, none] [] (shR, J, L', pR) = some (none, (shR, J', fqR L1 (woZ m k o ans b c w p), pR)) := by
  have h2' := h2.wo (woF.fq (L := L') (J := J) (0, 0))
  have fz : fqR (fqR L' (0, 0)) (0, 0) = fqR L' (0, 0) := fqR_2 _ _
  have stay : woZ m k o ans b c w p = (0, 0) → ∀ X : jO, X = some (none, (shR, J, fqR L' (0, 0), pR)) → ∃ J' L1, woF J J' L' L1 ∧ X = some (none, (shR, J', fqR L1 (woZ m k o ans b c w p), pR)) := fun hz X hX => ⟨J, L', ⟨fun _ _ => rfl, fun _ _ _ => rfl, fun _ _ => rfl, fun _ _ _ _ => rfl⟩, by rw [hz]; exact hX⟩
  have st : jv (e + 9) 293 0 [some (.ref 0), some (.int (nI w)), some (.long (lI p.1)), none, some (.long (lI p.2)), none, none, none, none, none, none, none] [] (shR, J, L', pR) = jv (e + 9) 293 4 [some (.ref 0), some (.int (nI w)), some (.long (lI p.1)), none, some (.long (lI p.2)), none, none, none, none, none, none, none] [] (shR, J, fqR L' (0, 0), pR) := by
    rw [B293_0, jgo_some (d := e + 8) rfl und_r]
    rfl
  rw [st, B293_4]
  by_cases a : p.2 = 1
  case neg =>
    rw [if_neg (fun y => a ((is1' hp).mp y))]
    exact stay (by unfold woZ; rw [if_neg (fun y => a y.1)]) _ rfl
  rw [if_pos ((is1' hp).mpr a)]
  have rs : ∀ (K : Option Value → jS → jO), jgo jTT jMM (e + 9) 292 [.ref 0] (shR, J, fqR L' (0, 0), pR) K = K (some (.int (if rsB k ans = true then 1 else 0))) (shR, J, fqR L' (0, 0), pR) := fun K => jgo_some (d := e + 8) rfl (rests_r1 h2')
  have lo : ∀ z : Int64, lg_cmp (lI p.1) z < 0 ↔ p.1 < z.toInt := fun z => by rw [lcmp_neg, hp.1.i]
  have lo0 : lg_cmp (lI p.1) 0 < 0 ↔ p.1 < 0 := by have := lo 0; rwa [show (0 : Int64).toInt = 0 from rfl] at this
  have lo2 : lg_cmp (lI p.1) (-2048) < 0 ↔ p.1 < -2048 := by have := lo (-2048); rwa [show (-2048 : Int64).toInt = -2048 by decide] at this
  have hi : ∀ z : Int64, (0 : Int32) < lg_cmp (lI p.1) z ↔ z.toInt < p.1 := fun z => by rw [lcmp_pos, hp.1.i]
  have hi2 : (0 : Int32) < lg_cmp (lI p.1) 2048 ↔ 2048 < p.1 := by have := hi 2048; rwa [show (2048 : Int64).toInt = 2048 by decide] at this
  by_cases w3 : w = 3
  · subst w3
    rw [if_pos (show nI 3 = 3 from rfl), rs]
    dsimp only [Option.toList_some, Option.toList_none, List.cons_append, List.nil_append]
    rw [B293_21, B293_74]
    by_cases z : rsB k ans = true
    case neg =>
      rw [if_neg z, if_pos rfl]
      exact stay (by unfold woZ; rw [if_neg (fun y => z y.2)]) _ rfl
    rw [if_pos z, if_neg (show ¬ (1 : Int32) = 0 by decide)]
    have vz : woZ m k o ans b c 3 p = if -2048 ≤ p.1 ∧ p.1 ≤ 2048 then (match tR m o p.1 with | none => (0, 0) | some bb => fS (tU m o bb p.1).toInt 1) else (0, 0) := by
      unfold woZ
      rw [if_pos ⟨a, z⟩, if_neg (by decide), if_neg (by decide), if_neg (by decide)]
      all_goals rfl
    by_cases u1 : p.1 < -2048
    · rw [if_pos (lo2.mpr u1)]
      exact stay (by rw [vz, if_neg (by omega)]) _ rfl
    rw [if_neg (fun y => u1 (lo2.mp y))]
    by_cases u2 : 2048 < p.1
    · rw [if_pos (hi2.mpr u2)]
      exact stay (by rw [vz, if_neg (by omega)]) _ rfl
    rw [if_neg (fun y => u2 (hi2.mp y)), l32 (by omega) (by omega)]
    obtain ⟨k1, a0, -⟩ := rsB_t hd z
    subst k1
    obtain ⟨-, y5, -⟩ := h2'.known
    obtain ⟨J1, L1, g1, g2⟩ := trim_r (e := e) y5 (c := p.1) (by omega)
    rw [jgo_some (d := e + 8) rfl g2]
    dsimp only [Option.toList_some, Option.toList_none, List.cons_append, List.nil_append]
    rw [B293_46, B293_74, vz, if_pos (show -2048 ≤ p.1 ∧ p.1 ≤ 2048 by omega)]
    have f1 := (woF.fq (J := J) (L := L') (0, 0)).trans g1.wo
    cases ht : tR m o p.1 with
    | none =>
      dsimp only
      rw [if_pos rfl]
      refine ⟨J1, L1, f1, ?_⟩
      have : fqR L1 (0, 0) = L1 := by
        funext x y
        by_cases q : x = 0 ∧ (y = 54 ∨ y = 55)
        · obtain ⟨rfl, q2⟩ := q
          rcases q2 with rfl | rfl
          · rw [g1.2.2.2 54 (by decide)]; rfl
          · rw [g1.2.2.2 55 (by decide)]; rfl
        · by_cases x0 : x = 0
          · subst x0; rw [fqR_0 _ (by omega) (by omega)]
          · rw [fqR_cl _ x0]
      rw [this]
    | some bb =>
      have hb := tR_b ht
      obtain ⟨J2, L2, w1, w2, w3⟩ := balance_r (e := e + 2) (y5.fr g1) (b := bb) (c := p.1) (by omega) (by omega)
      dsimp only
      rw [if_neg (show ¬ vI bb = 99999 from fun y => by
        have := congrArg Int32.toInt y
        rw [vI_i (by omega) (by omega)] at this
        have e9 : (99999 : Int32).toInt = 99999 := by decide
        omega), l32 (by omega) (by omega), jgo_some (d := e + 8) rfl w3]
      dsimp only [Option.toList_some, Option.toList_none, List.cons_append, List.nil_append]
      rw [B293_64, l32 (by omega) (by omega), jgo_some (d := e + 8) rfl (across_r (e := e + 7) ((y5.fr g1).fr w1).1 w2 (by omega))]
      dsimp only [Option.toList_some, Option.toList_none, List.cons_append, List.nil_append]
      rw [B293_71, whole_r2 (e := e + 6)]
      dsimp only [Option.toList_some, Option.toList_none, List.cons_append, List.nil_append]
      rw [B293_74]
      exact ⟨_, L2, (f1.trans w1.wo).trans (woF.up 0), rfl⟩
  · have hw3 : w = 0 ∨ w = 1 ∨ w = 2 := by omega
    rw [if_neg (show ¬ nI w = 3 from fun y => w3 ((nI_eq (b := 3) (by omega) (by decide)).mp y))]
    -- a part of a long
    have fin : ∀ (t : Int32) (x y : Int64), woZ m k o ans b c w p = fS x.toInt y.toInt → ∃ J' L1, woF J J' L' L1 ∧ jv (e + 9) 293 209 [some (.ref 0), some (.int (nI w)), some (.long (lI p.1)), none, some (.long (lI p.2)), none, some (.int t), some (.int (vI p.1)), none, none, none, none] [.long y, .long x, .ref 0] (shR, J, fqR L' (0, 0), pR) = some (none, (shR, J', fqR L1 (woZ m k o ans b c w p), pR)) := by
      intro t x y hxy
      refine ⟨j_up J 0 53 0, L', woF.up 0, ?_⟩
      rw [B293_209, part_r (e := e + 6), fqR_2, hxy]
      dsimp only [Option.toList_some, Option.toList_none, List.cons_append, List.nil_append]
      rw [B293_212, B293_471]
    have main : ∀ (t : Int32) (T : Int), t.toInt64.toInt = T → (w = 0 ∧ T = 15 ∨ (w = 1 ∨ w = 2) ∧ T = 16) → ∃ J' L1, woF J J' L' L1 ∧ jv (e + 9) 293 113 [some (.ref 0), some (.int (nI w)), some (.long (lI p.1)), none, some (.long (lI p.2)), none, none, none, none, none, none, none] [.int t] (shR, J, fqR L' (0, 0), pR) = some (none, (shR, J', fqR L1 (woZ m k o ans b c w p), pR)) := by
      intro t T hT hwT
      rw [B293_113, B293_129]
      have out : ¬ (0 ≤ p.1 ∧ p.1 ≤ T) → woZ m k o ans b c w p = (0, 0) := by
        intro hn
        unfold woZ
        by_cases z : p.2 = 1 ∧ rsB k ans = true
        · rw [if_pos z]
          rcases hwT with ⟨u, v⟩ | ⟨u | u, v⟩ <;> (rw [v] at hn; subst u)
          · rw [if_pos rfl, if_neg hn]
          · rw [if_neg (by decide), if_pos rfl, if_neg hn]
          · rw [if_neg (by decide), if_neg (by decide), if_pos rfl, if_neg hn]
        · rw [if_neg z]
      by_cases u1 : p.1 < 0
      · rw [if_pos (lo0.mpr u1)]
        exact stay (out (by omega)) _ rfl
      rw [if_neg (fun y => u1 (lo0.mp y))]
      by_cases u2 : T < p.1
      · rw [if_pos ((hi _).mpr (by rw [hT]; exact u2))]
        exact stay (out (by omega)) _ rfl
      rw [if_neg (fun y => u2 (by have := (hi _).mp y; rw [hT] at this; exact this)), if_pos (show nI w < 3 from nI_lt (b := 3) (by omega) (by decide)), rs, l32 (by omega) (by omega)]
      dsimp only [Option.toList_some, Option.toList_none, List.cons_append, List.nil_append]
      rw [B293_143, B293_471]
      by_cases z : rsB k ans = true
      case neg =>
        rw [if_neg z, if_pos rfl]
        exact stay (by unfold woZ; rw [if_neg (fun y => z y.2)]) _ rfl
      rw [if_pos z, if_neg (show ¬ (1 : Int32) = 0 by decide)]
      obtain ⟨k1, a0, r16, qc, qb, qa⟩ := rsB_t hd z
      subst k1
      obtain ⟨-, y5, -, hR⟩ := h2'.known
      obtain ⟨⟨s66, s67, s68⟩, -, -, -, -, s40⟩ := hR a0
      have en : vI p.1 = nI p.1.toNat := by rw [nI_vI]; congr 1; omega
      have j17 : j_in (vI p.1) 17 = true := by rw [en]; exact j_in_nI (by omega) (by decide)
      have c17 : (vI p.1).toNatClampNeg = p.1.toNat := by rw [en]; exact nI_clamp (by omega)
      rcases hwT with ⟨u, v⟩ | ⟨u | u, v⟩
      · subst u
        have m15 := mul15 qb (show p.1.toNat < 16 by omega)
        rw [show ((p.1.toNat : Nat) : Int) = p.1 by omega] at m15
        have d6 : (2 * vI p.1 - 15).toInt64 = lI (2 * p.1 - 15) := by
          rw [en, d64 (show p.1.toNat < 16 by omega), show ((p.1.toNat : Nat) : Int) = p.1 by omega]
        rw [if_pos (show nI 0 = 0 from rfl), s66, s67, vI_64 (z := seaL m o (WT m o) b c) (by omega) (by omega), vI_64' qb.1 qb.2, d6, lI_mul, lI_add, B293_196, if_pos (show nI 0 = 0 from rfl)]
        refine fin _ _ _ ?_
        rw [lI_toInt (by omega) (by omega), show (64 : Int64).toInt = 64 from rfl]
        unfold woZ
        rw [if_pos ⟨a, z⟩, if_pos rfl, if_pos (by omega)]
      · subst u
        rw [if_neg (show ¬ nI 1 = 0 by decide), if_pos (show nI 1 = 1 from rfl), if_pos j17, c17, (s40 p.1.toNat (by omega)).1, B293_196, if_neg (show ¬ nI 1 = 0 by decide)]
        refine fin _ _ _ ?_
        rw [show (1024 : Int64).toInt = 1024 from rfl]
        unfold woZ
        rw [if_pos ⟨a, z⟩, if_neg (by decide), if_pos rfl, if_pos (by omega)]
      · subst u
        rw [if_neg (show ¬ nI 2 = 0 by decide), if_neg (show ¬ nI 2 = 1 by decide), if_pos j17, c17, (s40 p.1.toNat (by omega)).2, B293_196, if_neg (show ¬ nI 2 = 0 by decide)]
        refine fin _ _ _ ?_
        rw [show (1024 : Int64).toInt = 1024 from rfl]
        unfold woZ
        rw [if_pos ⟨a, z⟩, if_neg (by decide), if_neg (by decide), if_pos rfl, if_pos (by omega)]
    rcases hw3 with u | u | u
    · subst u
      rw [if_neg (show ¬ nI 0 = 1 by decide), if_neg (show ¬ nI 0 = 2 by decide), if_neg (show ¬ nI 0 = 9 by decide), if_neg (show ¬ nI 0 = 10 by decide)]
      exact main 15 15 (by decide) (Or.inl ⟨rfl, rfl⟩)
    · subst u
      rw [if_pos (show nI 1 = 1 from rfl), B293_85]
      exact main 16 16 (by decide) (Or.inr ⟨Or.inl rfl, rfl⟩)
    · subst u
      rw [if_neg (show ¬ nI 2 = 1 by decide), if_pos (show nI 2 = 2 from rfl), B293_85]
      exact main 16 16 (by decide) (Or.inr ⟨Or.inr rfl, rfl⟩)
end SEBX
