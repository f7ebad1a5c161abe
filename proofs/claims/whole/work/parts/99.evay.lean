/-! RULES: words of something in the second one -/
section EVAZ
variable {m : Nat → Int32} {I J : Nat → Nat → Int32} {L L' : Nat → Nat → Int64} {pa pb pu pw : Option Nat} {d e : Nat}
theorem fA_by {x y : Int} (hx : fB x) (hy : fB y) : fA 3 x 1 y 1 = fS x y := by
  unfold fA
  rw [if_neg (by decide), if_neg (by decide), fT_1 hx, fT_1' hy]
  dsimp only
  rw [if_pos rfl]
theorem x32 {k : Int} (h1 : -2048 ≤ k) (h2 : k ≤ 2048) : ((lI k).toInt32).toInt = k := by
  rw [Int64.toInt_toInt32, lI_toInt (by omega) (by omega)]
  exact Int.bmod_eq_of_le (by omega) (by omega)
theorem x32n {n : Nat} (h : n ≤ 2048) : (lI n).toInt32 = nI n := by
  apply Int32.toInt_inj.mp
  rw [x32 (by omega) (by omega), nI_toInt (by omega)]
theorem woA_b (hk : mK m I J) {w : Nat} (p : Int × Int) : fN (woA m I w p) ∧ nz (woA m I w p) := by
  have one : ∀ x : Int32, fN (x.toInt, 1) ∧ nz (x.toInt, 1) := fun x => ⟨fN1 (i32_b x), fun z => absurd z (show ¬ (1 : Int) = 0 by decide)⟩
  have non : fN (0, 0) ∧ nz (0, 0) := ⟨fN0, fun _ => rfl⟩
  unfold woA
  split
  case isFalse => exact non
  unfold woB
  split
  · split
    · exact ⟨fS_b _ _, fS_nz _ _⟩
    · exact non
  split
  · split
    · exact ⟨fS_b _ _, fS_nz _ _⟩
    · exact non
  split
  · split
    · exact ⟨fA_b _ _ _ _ _, fA_nz _ _ _ _ _⟩
    · exact non
  split
  · split
    · rename_i q
      refine ⟨fN1 ?_, fun z => absurd z (show ¬ (1 : Int) = 0 by decide)⟩
      have sl : isSl (lI p.1).toInt32 := by
        by_cases y : isSl (lI p.1).toInt32
        · exact y
        · unfold kdS at q; rw [if_neg y] at q; exact absurd q (by decide)
      obtain ⟨n, hn, e⟩ := i_small (n := 16) sl.1 sl.2 (by decide)
      rw [e, nI_clamp (by omega)]
      have := (room_N hk.q hn).1
      exact ⟨by have : HG = 1000000000000000000 := rfl; omega, by have : HG = 1000000000000000000 := rfl; omega⟩
    · exact non
  split
  · split
    · exact one _
    · exact non
  split
  · split
    · exact one _
    · exact non
  · split
    · exact one _
    · exact non
/-- nothing is asked for -/
theorem wo_out {w N : Nat} (h4 : 4 ≤ w) (hw : w ≤ 10) (hN : N = if w = 9 then 5 else if w = 10 then 6 else 15) {p : Int × Int} (h : p.1 < 0 ∨ (N : Int) < p.1) : woA m I w p = (0, 0) := by
  unfold woA
  by_cases a : p.2 = 1 ∧ -2048 ≤ p.1 ∧ p.1 ≤ 2048
  case neg => rw [if_neg a]
  rw [if_pos a]
  have hx := x32 a.2.1 a.2.2
  generalize (lI p.1).toInt32 = x at hx
  have lt0 : x < 0 ↔ p.1 < 0 := by rw [← hx]; exact Int32.lt_iff_toInt_lt
  have ltn : ∀ n : Nat, n < 2 ^ 31 → (x < nI n ↔ p.1 < n) := fun n hn => by rw [← hx, ← nI_toInt hn]; exact Int32.lt_iff_toInt_lt
  have n16 : ¬ x < 0 → x < 16 → N = 15 → False := fun y z q => by
    have := (ltn 16 (by decide)).mp z
    rcases h with h | h
    · exact y (lt0.mpr h)
    · omega
  have k0 : N = 15 → ¬ 0 < kdS m x := fun q y => by
    unfold kdS at y
    by_cases z : isSl x
    · exact n16 z.1 z.2 q
    · rw [if_neg z] at y; exact absurd y (by decide)
  rcases (show w = 4 ∨ w = 5 ∨ w = 6 ∨ w = 7 ∨ w = 8 ∨ w = 9 ∨ w = 10 by omega) with z | z | z | z | z | z | z <;> subst z
  · exact if_neg (show ¬ isSl x from fun y => n16 y.1 y.2 hN)
  · exact if_neg (show ¬ isSl x from fun y => n16 y.1 y.2 hN)
  · exact if_neg (show ¬ isSl x from fun y => n16 y.1 y.2 hN)
  · exact if_neg (k0 hN)
  · exact if_neg (k0 hN)
  · refine if_neg (show ¬ (I 96 0 ≠ 0 ∧ (¬ x < 0 ∧ x < 6) ∧ ¬ I 97 x.toNatClampNeg < 0) from fun y => ?_)
    have hN : N = 5 := hN
    have := (ltn 6 (by decide)).mp y.2.1.2
    rcases h with h | h
    · exact y.2.1.1 (lt0.mpr h)
    · omega
  · refine if_neg (show ¬ (I 107 1 ≠ 0 ∧ ¬ I 107 5 < 0 ∧ (¬ x < 0 ∧ x < 7) ∧ ¬ I 111 x.toNatClampNeg < 0) from fun y => ?_)
    have hN : N = 6 := hN
    have := (ltn 7 (by decide)).mp y.2.2.1.2
    rcases h with h | h
    · exact y.2.2.1.1 (lt0.mpr h)
    · omega
theorem woA_r {w : Nat} (h4 : 4 ≤ w) (hw : w ≤ 10) (hk : mK m I J) (hr : knW I J) {p : Int × Int} (hp : fN p) : ∃ y, jv (e + 5) 293 0 [some (.ref 0), some (.int (nI w)), some (.long (lI p.1)), none, some (.long (lI p.2)), none, none, none, none, none, none, none] [] (shR, J, L', pR) = some (none, (shR, j_up J 0 53 y, fqR L' (woA m I w p), pR)) := by
  have go : jv (e + 5) 293 0 [some (.ref 0), some (.int (nI w)), some (.long (lI p.1)), none, some (.long (lI p.2)), none, none, none, none, none, none, none] [] (shR, J, L', pR) = jv (e + 5) 293 4 [some (.ref 0), some (.int (nI w)), some (.long (lI p.1)), none, some (.long (lI p.2)), none, none, none, none, none, none, none] [] (shR, J, fqR L' (0, 0), pR) := by
    rw [B293_0, jgo_some (d := e + 4) rfl und_r]
    rfl
  have nothing : ∀ x : jO, x = some (none, (shR, J, fqR L' (0, 0), pR)) → woA m I w p = (0, 0) → ∃ y, x = some (none, (shR, j_up J 0 53 y, fqR L' (woA m I w p), pR)) := fun x hx hz => ⟨J 0 53, by rw [hx, j_up_id, hz]⟩
  rw [go, B293_4]
  by_cases a : p.2 = 1
  case neg =>
    rw [if_neg (fun y => a ((is1' hp).mp y))]
    exact nothing _ rfl (by unfold woA; rw [if_neg (fun y => a y.1)])
  have nw : ∀ k : Nat, k < 2 ^ 31 → w ≠ k → ¬ nI w = nI k := fun k hk hn z => hn ((nI_eq (by omega) hk).mp z)
  have at13 : (if nI w = 9 then jv (e + 5) 293 113 [some (.ref 0), some (.int (nI w)), some (.long (lI p.1)), none, some (.long (lI p.2)), none, none, none, none, none, none, none] [.int 5] (shR, J, fqR L' (0, 0), pR) else if nI w = 10 then jv (e + 5) 293 113 [some (.ref 0), some (.int (nI w)), some (.long (lI p.1)), none, some (.long (lI p.2)), none, none, none, none, none, none, none] [.int 6] (shR, J, fqR L' (0, 0), pR) else jv (e + 5) 293 113 [some (.ref 0), some (.int (nI w)), some (.long (lI p.1)), none, some (.long (lI p.2)), none, none, none, none, none, none, none] [.int 15] (shR, J, fqR L' (0, 0), pR)) = jv (e + 5) 293 113 [some (.ref 0), some (.int (nI w)), some (.long (lI p.1)), none, some (.long (lI p.2)), none, none, none, none, none, none, none] [.int (nI (if w = 9 then 5 else if w = 10 then 6 else 15))] (shR, J, fqR L' (0, 0), pR) := by
    by_cases z9 : w = 9
    · subst z9; rfl
    · rw [if_neg (show ¬ nI w = 9 from nw 9 (by decide) z9), if_neg z9]
      by_cases z10 : w = 10
      · subst z10; rfl
      · rw [if_neg (show ¬ nI w = 10 from nw 10 (by decide) z10), if_neg z10]; rfl
  rw [if_pos ((is1' hp).mpr a), if_neg (show ¬ nI w = 3 from nw 3 (by decide) (by omega)), if_neg (show ¬ nI w = 1 from nw 1 (by decide) (by omega)), if_neg (show ¬ nI w = 2 from nw 2 (by decide) (by omega))]
  rw [at13, B293_113]
  generalize hN : (if w = 9 then 5 else if w = 10 then 6 else 15 : Nat) = N
  have N16 : N ≤ 15 := by
    rw [← hN]; split
    · omega
    · split <;> omega
  by_cases b : p.1 < 0
  · rw [if_pos ((lcmp_neg _ _).mpr (by rw [hp.1.i]; exact b)), B293_129]
    exact nothing _ rfl (wo_out h4 hw hN.symm (Or.inl b))
  rw [if_neg (fun y => b (by have := (lcmp_neg _ _).mp y; rw [hp.1.i] at this; exact this)), nI64 (by omega)]
  have Nfb : fB ((N : Nat) : Int) := ⟨by have : HG = 1000000000000000000 := rfl; omega, by have : HG = 1000000000000000000 := rfl; omega⟩
  by_cases c : (N : Int) < p.1
  · rw [if_pos ((lcmp_pos _ _).mpr (by rw [hp.1.i, Nfb.i]; exact c)), B293_129]
    exact nothing _ rfl (wo_out h4 hw hN.symm (Or.inr c))
  rw [if_neg (fun y => c (by have := (lcmp_pos _ _).mp y; rw [hp.1.i, Nfb.i] at this; exact this))]
  obtain ⟨n, hn⟩ : ∃ n : Nat, p.1 = n := ⟨p.1.toNat, by omega⟩
  have n16 : n ≤ N := by omega
  have ex : (lI p.1).toInt32 = nI n := by rw [hn]; exact x32n (by omega)
  have wA : woA m I w p = woB m I w (nI n) := by unfold woA; rw [if_pos ⟨a, by omega, by omega⟩, ex]
  rw [ex, wA]
  have sl : isSl (nI n) := ⟨nI_pos (by omega), nI_lt (b := 16) (by omega) (by decide)⟩
  have T : ∀ w J2 L2, mK m I J2 → w < 3 → jv (e + 4) 329 0 [some (.ref 0), some (.int (nI n)), some (.int (nI w)), none, none, none, none, none, none, none, none] [] (shR, J2, L2, pR) = some (some (.long (lI (stlS m (nI n) w))), (shR, J2, L2, pR)) := fun w J2 L2 h2 hw => steel_r h2 (nI n) hw
  have F := fun w => stl_fB (w := w) hk (nI n)
  have mk : ∀ y : Int32, mK m I (j_up J 0 53 y) := fun y => ⟨hk.1, fun q hq => by rw [j_up_cell _ (by decide)]; exact hk.2.1 q hq, hk.2.2.1, rCst_eq1 hk.2.2.2.1 (fun c hc _ => j_up_cell _ hc _ _), hk.2.2.2.2⟩
  have one : ∀ x : Int32, jv (e + 4) 288 0 [some (.ref 0), some (.long x.toInt64), none] [] (shR, J, fqR L' (0, 0), pR) = some (none, (shR, j_up J 0 53 0, fqR L' (x.toInt, 1), pR)) := fun x => by rw [one_r (e := e + 2) x, fqR_fqR]
  by_cases w7 : w < 7
  · rw [if_neg (show ¬ nI w < 3 from nI_nlt (b := 3) (by omega) (by omega)), if_pos (show nI w < 7 from nI_lt (b := 7) w7 (by decide)), jgo_some (d := e + 4) rfl (T 0 _ _ hk (by decide))]
    dsimp only [Option.toList_some, Option.toList_none, List.cons_append, List.nil_append]
    rw [B293_228, jgo_some (d := e + 4) rfl (T 1 _ _ hk (by decide))]
    dsimp only [Option.toList_some, Option.toList_none, List.cons_append, List.nil_append]
    rw [B293_237]
    rcases (show w = 4 ∨ w = 5 ∨ w = 6 by omega) with z | z | z <;> subst z
    · have w1 := whole_r (e := e + 2) (J := J) (L := fqR L' (0, 0)) (F 0)
      rw [fqR_fqR] at w1
      refine ⟨0, ?_⟩
      rw [if_pos (show nI 4 = 4 by decide), jgo_some (d := e + 4) rfl w1]
      dsimp only [Option.toList_some, Option.toList_none, List.cons_append, List.nil_append]
      rw [B293_250, B293_324, B293_471, show woB m I 4 (nI n) = fS (stlS m (nI n) 0) 1 from if_pos sl, fS_1 (F 0)]
    · obtain ⟨y, r1⟩ := act_r (e := e + 2) (J := J) (L' := fqR L' (0, 0)) (k := 3) (by decide) (F 1) fB1 (F 0) fB1
      rw [fqR_fqR, fA_by (F 1) (F 0)] at r1
      refine ⟨y, ?_⟩
      rw [if_neg (show ¬ nI 5 = 4 by decide), if_pos (show nI 5 = 5 by decide), jgo_some (d := e + 4) rfl r1]
      dsimp only [Option.toList_some, Option.toList_none, List.cons_append, List.nil_append]
      rw [B293_270, B293_324, B293_471, show woB m I 5 (nI n) = fS (stlS m (nI n) 1) (stlS m (nI n) 0) from if_pos sl]
    · have b1 := fA_b 2 (stlS m (nI n) 1) 1 (stlS m (nI n) 1) 1
      have b2 := fA_b 3 (fA 2 (stlS m (nI n) 1) 1 (stlS m (nI n) 1) 1).1 (fA 2 (stlS m (nI n) 1) 1 (stlS m (nI n) 1) 1).2 (stlS m (nI n) 0) 1
      obtain ⟨y1, r1⟩ := act_r (e := e + 2) (J := J) (L' := fqR L' (0, 0)) (k := 2) (by decide) (F 1) fB1 (F 1) fB1
      obtain ⟨y2, r2⟩ := act_r (e := e + 2) (J := j_up J 0 53 y1) (L' := fqR L' (fA 2 (stlS m (nI n) 1) 1 (stlS m (nI n) 1) 1)) (k := 3) (by decide) b1.1 (fN.d b1) (F 0) fB1
      obtain ⟨y3, r3⟩ := act_r (e := e + 2) (J := j_up J 0 53 y2) (L' := fqR L' (fA 3 (fA 2 (stlS m (nI n) 1) 1 (stlS m (nI n) 1) 1).1 (fA 2 (stlS m (nI n) 1) 1 (stlS m (nI n) 1) 1).2 (stlS m (nI n) 0) 1)) (k := 1) (by decide) (F 2) fB1 b2.1 (fN.d b2)
      rw [fqR_fqR] at r1
      rw [fqR_fqR, j_up2] at r2 r3
      refine ⟨y3, ?_⟩
      rw [if_neg (show ¬ nI 6 = 4 by decide), if_neg (show ¬ nI 6 = 5 by decide), jgo_some (d := e + 4) rfl r1]
      dsimp only [Option.toList_some, Option.toList_none, List.cons_append, List.nil_append]
      rw [B293_285, fqR_54, fqR_55, jgo_some (d := e + 4) rfl r2]
      dsimp only [Option.toList_some, Option.toList_none, List.cons_append, List.nil_append]
      rw [B293_302, jgo_some (d := e + 4) rfl (T 2 _ _ (mk y2) (by decide))]
      dsimp only [Option.toList_some, Option.toList_none, List.cons_append, List.nil_append]
      rw [B293_312, fqR_54, fqR_55, jgo_some (d := e + 4) rfl r3]
      dsimp only [Option.toList_some, Option.toList_none, List.cons_append, List.nil_append]
      rw [B293_324, B293_471, show woB m I 6 (nI n) = fA 1 (stlS m (nI n) 2) 1 (fA 3 (fA 2 (stlS m (nI n) 1) 1 (stlS m (nI n) 1) 1).1 (fA 2 (stlS m (nI n) 1) 1 (stlS m (nI n) 1) 1).2 (stlS m (nI n) 0) 1).1 (fA 3 (fA 2 (stlS m (nI n) 1) 1 (stlS m (nI n) 1) 1).1 (fA 2 (stlS m (nI n) 1) 1 (stlS m (nI n) 1) 1).2 (stlS m (nI n) 0) 1).2 from if_pos sl]
  rw [if_neg (show ¬ nI w < 3 from nI_nlt (b := 3) (by omega) (by omega)), if_neg (show ¬ nI w < 7 from nI_nlt (b := 7) (by omega) (by omega))]
  by_cases w9 : w < 9
  · have N15 : N = 15 := by rw [← hN, if_neg (by omega), if_neg (by omega)]
    have a2 : jv (e + 4) 214 0 [some (.ref 0), some (.int 2), some (.int (nI n)), some (.int 0)] [] (shR, J, fqR L' (0, 0), pR) = some (some (.int (nI (152 + n * 8))), (shR, J, fqR L' (0, 0), pR)) := at_ok (t := 2) hk.2.2.2.1 (by decide) n 0
    have a4 : jv (e + 4) 214 0 [some (.ref 0), some (.int 4), some (.int (nI n)), some (.int 0)] [] (shR, J, fqR L' (0, 0), pR) = some (some (.int (nI (400 + n * 2))), (shR, J, fqR L' (0, 0), pR)) := at_ok (t := 4) hk.2.2.2.1 (by decide) n 0
    have kd : kdS m (nI n) = m (152 + n * 8) := by unfold kdS; rw [if_pos sl, nI_clamp (by omega)]
    rw [if_pos (show nI w < 9 from nI_lt (b := 9) w9 (by decide)), jgo_some (d := e + 4) rfl a2]
    dsimp only [Option.toList_some, Option.toList_none, List.cons_append, List.nil_append]
    rw [B293_345, if_pos (j_in_nI (by omega) (by decide)), nI_clamp (n := 152 + n * 8) (by omega), hk.2.1 _ (by omega)]
    by_cases q : 0 < m (152 + n * 8)
    · have q' : 0 < kdS m (nI n) := by rw [kd]; exact q
      rw [if_pos q]
      rcases (show w = 7 ∨ w = 8 by omega) with z | z <;> subst z
      · have R := room_N hk.q (show n < 16 by omega)
        refine ⟨0, ?_⟩
        rw [if_pos (show nI 7 = 7 by decide), jgo_some (d := e + 4) rfl ((R.2 I J (fqR L' (0, 0)) (fqR L' (0, 0)) none none none none 0 (e + 2) hk.q).2)]
        dsimp only [Option.toList_some, Option.toList_none, List.cons_append, List.nil_append]
        rw [B293_366, B293_384, jgo_some (d := e + 4) rfl (one _)]
        dsimp only [Option.toList_some, Option.toList_none, List.cons_append, List.nil_append]
        rw [B293_387, B293_471, show woB m I 7 (nI n) = (((roomN m (nI n).toNatClampNeg : Nat) : Int), 1) from if_pos q', nI_clamp (n := n) (by omega), nI_toInt (by have := R.1; omega)]
      · refine ⟨0, ?_⟩
        rw [if_neg (show ¬ nI 8 = 7 by decide), jgo_some (d := e + 4) rfl a4]
        dsimp only [Option.toList_some, Option.toList_none, List.cons_append, List.nil_append]
        rw [B293_382, if_pos (j_in_nI (by omega) (by decide)), nI_clamp (n := 400 + n * 2) (by omega), hk.2.1 _ (by omega), B293_384, jgo_some (d := e + 4) rfl (one _)]
        dsimp only [Option.toList_some, Option.toList_none, List.cons_append, List.nil_append]
        rw [B293_387, B293_471, show woB m I 8 (nI n) = ((m (400 + (nI n).toNatClampNeg * 2)).toInt, 1) from if_pos q', nI_clamp (n := n) (by omega)]
    · have q' : ¬ 0 < kdS m (nI n) := by rw [kd]; exact q
      refine ⟨J 0 53, ?_⟩
      rw [if_neg q, B293_471, j_up_id]
      rcases (show w = 7 ∨ w = 8 by omega) with z | z <;> subst z
      · rw [show woB m I 7 (nI n) = (0, 0) from if_neg q']
      · rw [show woB m I 8 (nI n) = (0, 0) from if_neg q']
  rw [if_neg (show ¬ nI w < 9 from nI_nlt (b := 9) (by omega) (by omega))]
  obtain ⟨_, _, ⟨r5, r6⟩, ⟨r7, r8⟩⟩ := hr
  rcases (show w = 9 ∨ w = 10 by omega) with z | z <;> subst z
  · have n6 : n < 6 := by have : N = 5 := hN.symm; omega
    have j6 : j_in (nI n) 6 = true := j_in_nI n6 (by decide)
    have x6 : ¬ nI n < 0 ∧ nI n < 6 := ⟨sl.1, nI_lt (b := 6) n6 (by decide)⟩
    rw [if_pos (show nI 9 = 9 by decide), ← r5]
    by_cases q0 : I 96 0 = 0
    · refine ⟨J 0 53, ?_⟩
      rw [if_pos q0, B293_471, j_up_id, show woB m I 9 (nI n) = (0, 0) from if_neg (show ¬ (I 96 0 ≠ 0 ∧ (¬ nI n < 0 ∧ nI n < 6) ∧ ¬ I 97 (nI n).toNatClampNeg < 0) from fun y => y.1 q0)]
    have wr := ((r6 q0).2 n n6).1
    rw [if_neg q0, if_pos j6, nI_clamp (n := n) (by omega), ← wr]
    by_cases q1 : I 97 n < 0
    · refine ⟨J 0 53, ?_⟩
      rw [if_pos q1, B293_471, j_up_id, show woB m I 9 (nI n) = (0, 0) from if_neg (show ¬ (I 96 0 ≠ 0 ∧ (¬ nI n < 0 ∧ nI n < 6) ∧ ¬ I 97 (nI n).toNatClampNeg < 0) from fun y => y.2.2 (by rw [nI_clamp (n := n) (by omega)]; exact q1))]
    · refine ⟨0, ?_⟩
      rw [if_neg q1, if_pos j6, jgo_some (d := e + 4) rfl (one _)]
      dsimp only [Option.toList_some, Option.toList_none, List.cons_append, List.nil_append]
      rw [B293_425, B293_471, show woB m I 9 (nI n) = ((I 97 (nI n).toNatClampNeg).toInt, 1) from if_pos (show I 96 0 ≠ 0 ∧ (¬ nI n < 0 ∧ nI n < 6) ∧ ¬ I 97 (nI n).toNatClampNeg < 0 from ⟨q0, x6, by rw [nI_clamp (n := n) (by omega)]; exact q1⟩), nI_clamp (n := n) (by omega)]
  · have n7 : n < 7 := by have : N = 6 := hN.symm; omega
    have j7 : j_in (nI n) 7 = true := j_in_nI n7 (by decide)
    have x7 : ¬ nI n < 0 ∧ nI n < 7 := ⟨sl.1, nI_lt (b := 7) n7 (by decide)⟩
    have a10 : jv (e + 4) 214 0 [some (.ref 0), some (.int 10), some (.int (nI n)), some (.int 0)] [] (shR, J, fqR L' (0, 0), pR) = some (some (.int (nI (844 + n * 5))), (shR, J, fqR L' (0, 0), pR)) := at_ok (t := 10) hk.2.2.2.1 (by decide) n 0
    rw [if_neg (show ¬ nI 10 = 9 by decide), ← r7]
    by_cases q0 : I 107 1 = 0
    · refine ⟨J 0 53, ?_⟩
      rw [if_pos q0, B293_471, j_up_id, show woB m I 10 (nI n) = (0, 0) from if_neg (show ¬ (I 107 1 ≠ 0 ∧ ¬ I 107 5 < 0 ∧ (¬ nI n < 0 ∧ nI n < 7) ∧ ¬ I 111 (nI n).toNatClampNeg < 0) from fun y => y.1 q0)]
    rw [if_neg q0]
    rcases r8 q0 with ⟨y1, y2⟩ | ⟨y1, y2, y3⟩
    · refine ⟨J 0 53, ?_⟩
      rw [if_pos y2, B293_471, j_up_id, show woB m I 10 (nI n) = (0, 0) from if_neg (show ¬ (I 107 1 ≠ 0 ∧ ¬ I 107 5 < 0 ∧ (¬ nI n < 0 ∧ nI n < 7) ∧ ¬ I 111 (nI n).toNatClampNeg < 0) from fun y => y.2.1 y1)]
    have y4 := y3 n n7
    obtain ⟨v, v1, v2⟩ := hk.nat 10 n 0 (mostv 10 0).toNatClampNeg (by decide) n7 (by decide) (show 844 + n * 5 + 0 < 1189 by omega) (by decide) (by decide) (by decide)
    have v2 : m (844 + n * 5) = nI v := v2
    have v1 : v ≤ (mostv 10 0).toNatClampNeg := v1
    have v3 : (mostv 10 0).toNatClampNeg < 2 ^ 31 := by decide
    rw [hk.2.1 _ (show 844 + n * 5 < 1189 by omega)] at y4
    rw [if_neg (by rw [← y2]; exact y1), jgo_some (d := e + 4) rfl a10]
    dsimp only [Option.toList_some, Option.toList_none, List.cons_append, List.nil_append]
    rw [B293_455, if_pos (j_in_nI (by omega) (by decide)), nI_clamp (n := 844 + n * 5) (by omega), hk.2.1 _ (show 844 + n * 5 < 1189 by omega)]
    by_cases q : v = 0
    · have mz : m (844 + n * 5) = 0 := by rw [v2, q]; rfl
      refine ⟨J 0 53, ?_⟩
      rw [if_neg (by rw [mz]; decide), B293_471, j_up_id, show woB m I 10 (nI n) = (0, 0) from if_neg (show ¬ (I 107 1 ≠ 0 ∧ ¬ I 107 5 < 0 ∧ (¬ nI n < 0 ∧ nI n < 7) ∧ ¬ I 111 (nI n).toNatClampNeg < 0) from fun y => y.2.2.2 (by rw [nI_clamp (n := n) (by omega)]; exact y4.1 mz))]
    · have mz : ¬ m (844 + n * 5) = 0 := by rw [v2]; exact fun z => q ((nI_eq (b := 0) (by omega) (by decide)).mp z)
      have y5 := y4.2 mz
      refine ⟨0, ?_⟩
      rw [if_pos (show 0 < m (844 + n * 5) by rw [v2]; exact nI_lt (a := 0) (by omega) (by omega)), if_pos j7, nI_clamp (n := n) (by omega), ← y5.2.1, jgo_some (d := e + 4) rfl (one _)]
      dsimp only [Option.toList_some, Option.toList_none, List.cons_append, List.nil_append]
      rw [B293_471, show woB m I 10 (nI n) = ((I 110 (nI n).toNatClampNeg).toInt, 1) from if_pos (show I 107 1 ≠ 0 ∧ ¬ I 107 5 < 0 ∧ (¬ nI n < 0 ∧ nI n < 7) ∧ ¬ I 111 (nI n).toNatClampNeg < 0 from ⟨q0, y1, x7, by rw [nI_clamp (n := n) (by omega)]; exact y5.1⟩), nI_clamp (n := n) (by omega)]
end EVAZ
