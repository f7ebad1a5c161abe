/-! FRACTIONS: products, sums, comparisons in both -/
section EVAB
variable {d e : Nat} {I J : Nat → Nat → Int32} {L L' : Nat → Nat → Int64} {pa pb pu pw : Option Nat}
theorem gcd_r (l0 l2 : Int64) : ∀ (n x y : Nat) (o8 o9 : Option Value), (eu n x y).2 = 0 → x < 2 ^ 63 → y < 2 ^ 63 → jv e 279 17 [some (.long l0), none, some (.long l2), none, some (.long (lgN x)), none, some (.long (lgN y)), none, o8, o9] [] (shR, J, L', pR) = some (some (.long (lgN (Nat.gcd x y))), (shR, J, L', pR)) := by
  intro n
  induction n with
  | zero =>
    intro x y o8 o9 h hx hy
    have h : y = 0 := h
    subst h
    rw [Nat.gcd_zero_right, B279_17, if_pos (show lg_cmp (lgN 0) 0 = 0 from rfl)]
  | succ n ih =>
    intro x y o8 o9 h hx hy
    unfold eu at h
    rw [B279_17]
    by_cases q : y = 0
    · subst q
      rw [Nat.gcd_zero_right, if_pos (show lg_cmp (lgN 0) 0 = 0 from rfl)]
    · rw [if_neg q] at h
      have ny : lgN y ≠ 0 := fun z => q ((lgN_eq (b := 0) hy (by decide)).mp z)
      rw [if_neg (fun z => ny ((lcmp_0 _).mp z)), if_neg ny, lgN_mod hx hy, ih y (x % y) (some (.long (lgN (x % y)))) none h hy (by have := Nat.mod_lt x (show 0 < y by omega); omega), Nat.gcd_comm x y, Nat.gcd_rec y x, Nat.gcd_comm]
theorem com_r {x : Int64} {y : Nat} (hx : fB x.toInt) (hy : y ≤ 1000000000000000000) : jv e 279 0 [some (.long x), none, some (.long (lgN y)), none, none, none, none, none, none, none] [] (shR, J, L', pR) = some (some (.long (lgN (Nat.gcd x.toInt.natAbs y))), (shR, J, L', pR)) := by
  have hH : HG = 1000000000000000000 := rfl
  have bx : x.toInt.natAbs ≤ 1000000000000000000 := by have := hx.1; have := hx.2; omega
  have l := labs2 hx
  rw [B279_0]
  by_cases q : lg_cmp x 0 < 0
  · rw [if_pos q] at l ⊢
    rw [l, B279_12, gcd_r x (lgN y) 90 _ _ _ _ (eu_ends hy bx) (by omega) (by omega)]
  · rw [if_neg q] at l ⊢
    rw [B279_12]
    have r := gcd_r (e := e) (J := J) (L' := L') x (lgN y) 90 x.toInt.natAbs y none none (eu_ends hy bx) (by omega) (by omega)
    rw [← l] at r
    exact r
theorem res_big (h : J 0 53 ≠ 0) (x y : Int64) : jv (e + 1) 280 0 [some (.ref 0), some (.long x), none, some (.long y), none, none, none] [] (shR, J, L', pR) = some (none, (shR, J, fqR L' (0, 0), pR)) := by
  rw [B280_0, if_neg h, B280_45, jgo_some (d := e) rfl und_r]
  dsimp only [Option.toList_some, Option.toList_none, List.cons_append, List.nil_append]
  rw [B280_49]
/-- the second one's result -/
theorem res_r (h : J 0 53 = 0) (x y : Int64) : jv (e + 1) 280 0 [some (.ref 0), some (.long x), none, some (.long y), none, none, none] [] (shR, J, L', pR) = some (none, (shR, J, fqR L' (fS x.toInt y.toInt), pR)) := by
  have hH : HG = 1000000000000000000 := rfl
  have e1 : (1000000000000000000 : Int64).toInt = HG := by decide
  have e2 : (-1000000000000000000 : Int64).toInt = -HG := by decide
  have und : jv (e + 1) 280 45 [some (.ref 0), some (.long x), none, some (.long y), none, none, none] [] (shR, J, L', pR) = some (none, (shR, J, fqR L' (0, 0), pR)) := by
    rw [B280_45, jgo_some (d := e) rfl und_r]
    dsimp only [Option.toList_some, Option.toList_none, List.cons_append, List.nil_append]
    rw [B280_49]
  rw [B280_0, if_pos h]
  unfold fS
  by_cases q3 : y = 0
  · rw [if_pos ((lcmp_0 _).mpr q3), und, if_neg (fun z => z.2.2 (by rw [q3]; rfl))]
  have q3' : y.toInt ≠ 0 := fun z => q3 (Int64.toInt_inj.mp z)
  rw [if_neg (fun z => q3 ((lcmp_0 _).mp z))]
  by_cases q1 : HG < x.toInt
  · rw [if_pos ((lcmp_pos _ _).mpr (by omega)), und, if_neg (fun z => by have := z.1.1; omega)]
  rw [if_neg (fun z => q1 (by have := (lcmp_pos _ _).mp z; omega))]
  by_cases q2 : x.toInt < -HG
  · rw [if_pos ((lcmp_neg _ _).mpr (by omega)), und, if_neg (fun z => by have := z.1.2; omega)]
  rw [if_neg (fun z => q2 (by have := (lcmp_neg _ _).mp z; omega))]
  by_cases q4 : HG < y.toInt
  · rw [if_pos ((lcmp_pos _ _).mpr (by omega)), und, if_neg (fun z => by have := z.2.1.1; omega)]
  rw [if_neg (fun z => q4 (by have := (lcmp_pos _ _).mp z; omega))]
  by_cases q5 : y.toInt < -HG
  · rw [if_pos ((lcmp_neg _ _).mpr (by omega)), und, if_neg (fun z => by have := z.2.1.2; omega)]
  rw [if_neg (fun z => q5 (by have := (lcmp_neg _ _).mp z; omega)), if_pos (show (x.toInt ≤ HG ∧ -HG ≤ x.toInt) ∧ (y.toInt ≤ HG ∧ -HG ≤ y.toInt) ∧ y.toInt ≠ 0 from ⟨⟨by omega, by omega⟩, ⟨by omega, by omega⟩, q3'⟩)]
  have bx : fB x.toInt := ⟨by omega, by omega⟩
  have b_y : fB y.toInt := ⟨by omega, by omega⟩
  have g := gcd_le (x := x.toInt.natAbs) (y := y.toInt.natAbs) (by omega)
  have ng : lgN (Nat.gcd x.toInt.natAbs y.toInt.natAbs) ≠ 0 := fun z => by have := (lgN_eq (b := 0) (by omega) (by decide)).mp z; omega
  have dy : lgN y.toInt.natAbs / lgN (Nat.gcd x.toInt.natAbs y.toInt.natAbs) = lI ((y.toInt.natAbs : Int).tdiv (Nat.gcd x.toInt.natAbs y.toInt.natAbs)) := by
    rw [lgN_lI]; exact ldiv ⟨by omega, by omega⟩ g.1 (by omega)
  have ay := labs2 b_y
  by_cases q6 : lg_cmp y 0 < 0
  · have q7 : y.toInt < 0 := (lcmp_neg _ _).mp q6
    rw [if_pos q6] at ay
    have dx : (-x) / lgN (Nat.gcd x.toInt.natAbs y.toInt.natAbs) = lI ((-x.toInt).tdiv (Nat.gcd x.toInt.natAbs y.toInt.natAbs)) := by
      rw [show -x = lI (-x.toInt) by rw [← lI_neg, lI_of]]; exact ldiv ⟨by omega, by omega⟩ g.1 (by omega)
    rw [if_pos q6, ay, B280_63, jgo_some (d := e) rfl (com_r bx (by omega))]
    dsimp only [Option.toList_some, Option.toList_none, List.cons_append, List.nil_append]
    rw [B280_66, if_pos q6, if_neg ng, B280_87, if_pos q6, ay, B280_103, if_neg ng, dx, dy, if_pos q7]
    rfl
  · have q7 : ¬ y.toInt < 0 := fun z => q6 ((lcmp_neg _ _).mpr z)
    rw [if_neg q6] at ay
    have dx : x / lgN (Nat.gcd x.toInt.natAbs y.toInt.natAbs) = lI ((x.toInt).tdiv (Nat.gcd x.toInt.natAbs y.toInt.natAbs)) := by
      have := ldiv (n := x.toInt) bx g.1 (by omega)
      rw [lI_of] at this; exact this
    have com := com_r (e := e) (J := J) (L' := L') bx (y := y.toInt.natAbs) (by omega)
    rw [← ay] at com dy
    rw [if_neg q6, B280_63, jgo_some (d := e) rfl com]
    dsimp only [Option.toList_some, Option.toList_none, List.cons_append, List.nil_append]
    rw [B280_66, if_neg q6, if_neg ng, B280_87, if_neg q6, B280_103, if_neg ng, dx, dy, if_neg q7]
    rfl
/-- products -/
def tqC (a c : Int) : Int64 := match fT a c with | some x => lI x | none => -9223372036854775808
def tqR (a c : Int) : Int64 := match fT a c with | some x => lI x | none => 0
theorem fT_b {a c x : Int} (h : fT a c = some x) : fB x ∧ x = a * c := by
  unfold fT at h
  by_cases q : -HG ≤ a * c ∧ a * c ≤ HG
  · rw [if_pos q] at h; cases h; exact ⟨q, rfl⟩
  · rw [if_neg q] at h; cases h
theorem fT_abs {a c : Int} (ha : a ≠ 0) : (1000000000000000000 / a.natAbs < c.natAbs) ↔ fT a c = none := by
  have hH : HG = 1000000000000000000 := rfl
  have h1 : 1000000000000000000 / a.natAbs < c.natAbs ↔ 1000000000000000000 < c.natAbs * a.natAbs := Nat.div_lt_iff_lt_mul (by omega)
  have h2 : (a * c).natAbs = a.natAbs * c.natAbs := Int.natAbs_mul a c
  rw [h1, Nat.mul_comm, ← h2]
  unfold fT
  by_cases q : -HG ≤ a * c ∧ a * c ≤ HG
  · rw [if_pos q]
    exact ⟨fun z => by omega, fun z => by cases z⟩
  · rw [if_neg q]
    exact ⟨fun _ => rfl, fun _ => by omega⟩
theorem fT_0 {c : Int} : fT 0 c = some 0 := by unfold fT HG; rw [Int.zero_mul]; rfl
theorem fT_c0 {a : Int} : fT a 0 = some 0 := by unfold fT HG; rw [Int.mul_zero]; rfl
theorem HG_div {x : Nat} (h : 1 ≤ x) (h2 : x ≤ 1000000000000000000) : (1000000000000000000 : Int64) / lgN x = lgN (1000000000000000000 / x) := by
  rw [show (1000000000000000000 : Int64) = lgN 1000000000000000000 from rfl]
  exact lgN_div (by omega) (by omega)
theorem tim_c {a c : Int} (ha : fB a) (hc : fB c) : jv (d + 1) 164 0 [some (.long (lI a)), none, some (.long (lI c)), none] [] (shC, I, L, pX pa pb pu pw) = some (some (.long (tqC a c)), (shC, I, L, pX pa pb pu pw)) := by
  have hH : HG = 1000000000000000000 := rfl
  have ea := ha.i
  have ec := hc.i
  rw [B164_0, jgo_some (d := d) rfl (bey_c (lI a)), ea, if_pos ha]
  dsimp only [Option.toList_some, Option.toList_none, List.cons_append, List.nil_append]
  rw [B164_4, if_pos rfl, jgo_some (d := d) rfl (bey_c (lI c)), ec, if_pos hc]
  dsimp only [Option.toList_some, Option.toList_none, List.cons_append, List.nil_append]
  rw [B164_11, if_pos rfl]
  unfold tqC
  by_cases q : a = 0
  · subst q
    rw [if_pos (show lg_cmp (lI 0) 0 = 0 from rfl), B164_44, fT_0, lI_mul, Int.zero_mul]
  have na : lI a ≠ 0 := fun z => q (by rw [z] at ea; exact ea.symm)
  have la : (if (0 : Int64) < lI a then lI a else -lI a) = lgN a.natAbs := by have := labs (x := lI a) (by rw [ea]; exact ha); rw [ea] at this; exact this
  have lc : (if (0 : Int64) < lI c then lI c else -lI c) = lgN c.natAbs := by have := labs (x := lI c) (by rw [ec]; exact hc); rw [ec] at this; exact this
  have ba : a.natAbs ≤ 1000000000000000000 := by have := ha.1; have := ha.2; omega
  have bc : c.natAbs ≤ 1000000000000000000 := by have := hc.1; have := hc.2; omega
  have nz : lgN a.natAbs ≠ 0 := fun z => by have := (lgN_eq (b := 0) (by omega) (by decide)).mp z; omega
  have dl : 1000000000000000000 / a.natAbs ≤ 1000000000000000000 := Nat.div_le_self _ _
  rw [if_neg (fun z => na ((lcmp_0 _).mp z)), la, if_neg nz, lc, HG_div (by omega) ba]
  have key : 0 < lg_cmp (lgN c.natAbs) (lgN (1000000000000000000 / a.natAbs)) ↔ fT a c = none := by
    rw [lcmp_pos, lgN_toInt (by omega), lgN_toInt (by omega), ← fT_abs q]; omega
  by_cases q2 : fT a c = none
  · rw [if_pos (key.mpr q2), q2]
  · rw [if_neg (fun z => q2 (key.mp z)), B164_44, lI_mul]
    cases h : fT a c with
    | none => exact absurd h q2
    | some x => rw [(fT_b h).2]
theorem tim_r {a c : Int} (ha : fB a) (hc : fB c) : jv e 278 0 [some (.ref 0), some (.long (lI a)), none, some (.long (lI c)), none, none, none, none, none] [] (shR, J, L', pR) = some (some (.long (tqR a c)), (shR, if fT a c = none then j_up J 0 53 1 else J, L', pR)) := by
  have hH : HG = 1000000000000000000 := rfl
  have ea := ha.i
  have ec := hc.i
  rw [B278_0]
  unfold tqR
  by_cases q : a = 0
  · subst q
    rw [if_pos (show lg_cmp (lI 0) 0 = 0 from rfl), B278_12, fT_0, if_neg (by simp)]
    rfl
  have na : lI a ≠ 0 := fun z => q (by rw [z] at ea; exact ea.symm)
  rw [if_neg (fun z => na ((lcmp_0 _).mp z))]
  by_cases qc : c = 0
  · subst qc
    rw [if_pos (show lg_cmp (lI 0) 0 = 0 from rfl), B278_12, fT_c0, if_neg (by simp)]
    rfl
  have nc : lI c ≠ 0 := fun z => qc (by rw [z] at ec; exact ec.symm)
  rw [if_neg (fun z => nc ((lcmp_0 _).mp z))]
  have la : (if lg_cmp (lI a) 0 < 0 then -lI a else lI a) = lgN a.natAbs := by have := labs2 (x := lI a) (by rw [ea]; exact ha); rw [ea] at this; exact this
  have lc : (if lg_cmp (lI c) 0 < 0 then -lI c else lI c) = lgN c.natAbs := by have := labs2 (x := lI c) (by rw [ec]; exact hc); rw [ec] at this; exact this
  have ba : a.natAbs ≤ 1000000000000000000 := by have := ha.1; have := ha.2; omega
  have bc : c.natAbs ≤ 1000000000000000000 := by have := hc.1; have := hc.2; omega
  have nz : lgN a.natAbs ≠ 0 := fun z => by have := (lgN_eq (b := 0) (by omega) (by decide)).mp z; omega
  have dl : 1000000000000000000 / a.natAbs ≤ 1000000000000000000 := Nat.div_le_self _ _
  have s1 : (if lg_cmp (lI a) 0 < 0 then jv e 278 26 [some (.ref 0), some (.long (lI a)), none, some (.long (lI c)), none, none, none, none, none] [.long (-lI a)] (shR, J, L', pR) else jv e 278 26 [some (.ref 0), some (.long (lI a)), none, some (.long (lI c)), none, none, none, none, none] [.long (lI a)] (shR, J, L', pR)) = jv e 278 26 [some (.ref 0), some (.long (lI a)), none, some (.long (lI c)), none, none, none, none, none] [.long (lgN a.natAbs)] (shR, J, L', pR) := by
    rw [← la]; by_cases z : lg_cmp (lI a) 0 < 0 <;> simp only [if_pos, if_neg, z, if_true, if_false]
  rw [s1, B278_26]
  have s2 : (if lg_cmp (lI c) 0 < 0 then jv e 278 40 [some (.ref 0), some (.long (lI a)), none, some (.long (lI c)), none, some (.long (lgN a.natAbs)), none, none, none] [.long (-lI c)] (shR, J, L', pR) else jv e 278 40 [some (.ref 0), some (.long (lI a)), none, some (.long (lI c)), none, some (.long (lgN a.natAbs)), none, none, none] [.long (lI c)] (shR, J, L', pR)) = jv e 278 40 [some (.ref 0), some (.long (lI a)), none, some (.long (lI c)), none, some (.long (lgN a.natAbs)), none, none, none] [.long (lgN c.natAbs)] (shR, J, L', pR) := by
    rw [← lc]; by_cases z : lg_cmp (lI c) 0 < 0 <;> simp only [if_pos, if_neg, z, if_true, if_false]
  rw [s2, B278_40, if_neg nz, HG_div (by omega) ba]
  have key : 0 < lg_cmp (lgN c.natAbs) (lgN (1000000000000000000 / a.natAbs)) ↔ fT a c = none := by
    rw [lcmp_pos, lgN_toInt (by omega), lgN_toInt (by omega), ← fT_abs q]; omega
  by_cases q2 : fT a c = none
  · rw [if_pos (key.mpr q2), if_pos (by decide), if_pos q2, q2]
  · rw [if_neg (fun z => q2 (key.mp z)), if_neg q2, lI_mul]
    cases h : fT a c with
    | none => exact absurd h q2
    | some x => rw [(fT_b h).2]
def opK (k : Nat) : Int32 := if k = 0 then 43 else if k = 1 then 45 else if k = 2 then 42 else 47
def opR (k : Nat) : Int32 := if k = 0 then 12 else if k = 1 then 13 else if k = 2 then 14 else 15
theorem minS (y : Int) : fS (-9223372036854775808 : Int64).toInt y = (0, 0) := by
  unfold fS; rw [if_neg (fun z => by have := z.1.2; have e : (-9223372036854775808 : Int64).toInt = -9223372036854775808 := rfl; have : HG = 1000000000000000000 := rfl; omega)]
theorem Smin (x : Int) : fS x (-9223372036854775808 : Int64).toInt = (0, 0) := by
  unfold fS; rw [if_neg (fun z => by have := z.2.1.2; have e : (-9223372036854775808 : Int64).toInt = -9223372036854775808 := rfl; have : HG = 1000000000000000000 := rfl; omega)]
theorem tq_ne {a c x : Int} (h : fT a c = some x) : lg_cmp (lI x) (-9223372036854775808) ≠ 0 := fun z => by
  have e := (fT_b h).1.i
  rw [(lcmp_e _ _).mp z] at e
  have := (fT_b h).1.1
  have hH : HG = 1000000000000000000 := rfl
  have e2 : (-9223372036854775808 : Int64).toInt = -9223372036854775808 := rfl
  omega
theorem lI_0 {z : Int} (h : fB z) : lg_cmp (lI z) 0 = 0 ↔ z = 0 := by
  rw [lcmp_0]
  constructor
  · intro q; have := h.i; rw [q] at this; exact this.symm
  · intro q; rw [q]; rfl
theorem act_c {k : Nat} (hk : k < 4) {a b c f : Int} (ha : fB a) (hb : fB b) (hc : fB c) (hf : fB f) : jv (d + 2) 165 0 [some (.ref 116), some (.int (opK k)), some (.long (lI a)), none, some (.long (lI b)), none, some (.long (lI c)), none, some (.long (lI f)), none, none, none, none, none] [] (shC, I, L, pX pa pb pu pw) = some (none, (shC, I, fqC L (fA k a b c f), pX pa pb pu pw)) := by
  have hH : HG = 1000000000000000000 := rfl
  rw [B165_0, jgo_some (d := d + 1) rfl und_c]
  dsimp only [Option.toList_some, Option.toList_none, List.cons_append, List.nil_append]
  rw [B165_4]
  unfold fA
  by_cases q1 : b = 0
  · rw [if_pos ((lI_0 hb).mpr q1), B165_18, if_pos (Or.inl q1)]
  rw [if_neg (fun z => q1 ((lI_0 hb).mp z))]
  by_cases q2 : f = 0
  · rw [if_pos ((lI_0 hf).mpr q2), B165_18, if_pos (Or.inr q2)]
  rw [if_neg (fun z => q2 ((lI_0 hf).mp z)), if_neg (show ¬ (b = 0 ∨ f = 0) by omega)]
  by_cases q3 : k = 2
  · subst q3
    rw [if_pos (show opK 2 = 42 from rfl), if_pos rfl, jgo_some (d := d + 1) rfl (tim_c ha hc)]
    dsimp only [Option.toList_some, Option.toList_none, List.cons_append, List.nil_append]
    rw [B165_32, jgo_some (d := d + 1) rfl (tim_c hb hf)]
    dsimp only [Option.toList_some, Option.toList_none, List.cons_append, List.nil_append]
    rw [B165_39, jgo_some (d := d + 1) rfl (set_c (d := d) _ _)]
    dsimp only [Option.toList_some, Option.toList_none, List.cons_append, List.nil_append]
    rw [B165_42, fqC_fqC]
    unfold tqC
    cases h1 : fT a c with
    | none => dsimp only; rw [minS]
    | some x =>
      cases h2 : fT b f with
      | none => dsimp only; rw [Smin]
      | some y => dsimp only; rw [(fT_b h1).1.i, (fT_b h2).1.i]
  have n42 : ¬ opK k = 42 := by unfold opK; rcases (show k = 0 ∨ k = 1 ∨ k = 3 by omega) with z | z | z <;> subst z <;> decide
  rw [if_neg n42, if_neg q3, jgo_some (d := d + 1) rfl (tim_c ha hf)]
  dsimp only [Option.toList_some, Option.toList_none, List.cons_append, List.nil_append]
  rw [B165_49, jgo_some (d := d + 1) rfl (tim_c hb hc)]
  dsimp only [Option.toList_some, Option.toList_none, List.cons_append, List.nil_append]
  rw [B165_58]
  have eA : tqC a f = match fT a f with | some x => lI x | none => -9223372036854775808 := rfl
  have eB : tqC b c = match fT b c with | some x => lI x | none => -9223372036854775808 := rfl
  cases h1 : fT a f with
  | none =>
    rw [h1] at eA
    rw [eA, if_pos (by decide), B165_78]
  | some x =>
    rw [h1] at eA
    dsimp only at eA
    rw [eA, if_neg (tq_ne h1)]
    cases h2 : fT b c with
    | none =>
      rw [h2] at eB
      rw [eB, if_pos (by decide), B165_78]
    | some y =>
      rw [h2] at eB
      dsimp only at eB ⊢
      rw [eB, if_neg (tq_ne h2)]
      by_cases q4 : k = 3
      · subst q4
        rw [if_pos (show opK 3 = 47 from rfl), if_pos rfl, jgo_some (d := d + 1) rfl (set_c (d := d) _ _)]
        dsimp only [Option.toList_some, Option.toList_none, List.cons_append, List.nil_append]
        rw [B165_93, B165_126, fqC_fqC, (fT_b h1).1.i, (fT_b h2).1.i]
      · have n47 : ¬ opK k = 47 := by unfold opK; rcases (show k = 0 ∨ k = 1 by omega) with z | z <;> subst z <;> decide
        rw [if_neg n47, if_neg q4]
        have fin : ∀ s : Int, fB x → fB y → (s = x + y ∨ s = x - y) → jv (d + 2) 165 116 [some (.ref 116), some (.int (opK k)), some (.long (lI a)), none, some (.long (lI b)), none, some (.long (lI c)), none, some (.long (lI f)), none, some (.long (lI x)), none, some (.long (lI y)), none] [.long (lI s), .ref 116] (shC, I, fqC L (0, 0), pX pa pb pu pw) = some (none, (shC, I, fqC L (match fT b f with | some z => fS s z | none => (0, 0)), pX pa pb pu pw)) := by
          intro s hx hy hs
          rw [B165_116, jgo_some (d := d + 1) rfl (tim_c hb hf)]
          dsimp only [Option.toList_some, Option.toList_none, List.cons_append, List.nil_append]
          rw [B165_123, jgo_some (d := d + 1) rfl (set_c (d := d) _ _)]
          dsimp only [Option.toList_some, Option.toList_none, List.cons_append, List.nil_append]
          rw [B165_126, fqC_fqC]
          have es : (lI s).toInt = s := lI_toInt (by have := hx.1; have := hy.1; have := hy.2; have := hx.2; omega) (by have := hx.1; have := hy.1; have := hy.2; have := hx.2; omega)
          unfold tqC
          cases h3 : fT b f with
          | none => dsimp only; rw [Smin]
          | some z => dsimp only; rw [es, (fT_b h3).1.i]
        by_cases q5 : k = 0
        · subst q5
          rw [if_pos (show opK 0 = 43 from rfl), lI_add, fin (x + y) (fT_b h1).1 (fT_b h2).1 (Or.inl rfl)]
          simp only [if_true]
          cases fT b f <;> rfl
        · have : k = 1 := by omega
          subst this
          rw [if_neg (show ¬ opK 1 = 43 by decide), lI_sub, fin (x - y) (fT_b h1).1 (fT_b h2).1 (Or.inr rfl)]
          simp only [if_neg q5]
          cases fT b f <;> rfl
theorem j53 (J : Nat → Nat → Int32) (x y : Int32) : j_up (j_up J 0 53 x) 0 53 y = j_up J 0 53 y := by
  funext c i
  by_cases h : c = 0
  · subst h; rw [j_up_own, j_up_own, j_up_own]; by_cases h1 : i = 53 <;> simp [h1]
  · rw [j_up_cell _ h, j_up_cell _ h, j_up_cell _ h]
/-- the second one's product under way -/
theorem tim_r2 {a c : Int} (ha : fB a) (hc : fB c) (x : Int32) : jv e 278 0 [some (.ref 0), some (.long (lI a)), none, some (.long (lI c)), none, none, none, none, none] [] (shR, j_up J 0 53 x, L', pR) = some (some (.long (tqR a c)), (shR, j_up J 0 53 (if fT a c = none then 1 else x), L', pR)) := by
  rw [tim_r ha hc]
  by_cases q : fT a c = none
  · rw [if_pos q, if_pos q, j53]
  · rw [if_neg q, if_neg q]
theorem act_r {k : Nat} (hk : k < 4) {a b c f : Int} (ha : fB a) (hb : fB b) (hc : fB c) (hf : fB f) : ∃ x, jv (e + 2) 282 0 [some (.ref 0), some (.int (opR k)), some (.long (lI a)), none, some (.long (lI b)), none, some (.long (lI c)), none, some (.long (lI f)), none, none, none, none, none] [] (shR, J, L', pR) = some (none, (shR, j_up J 0 53 x, fqR L' (fA k a b c f), pR)) := by
  have hH : HG = 1000000000000000000 := rfl
  have und : jv (e + 2) 282 14 [some (.ref 0), some (.int (opR k)), some (.long (lI a)), none, some (.long (lI b)), none, some (.long (lI c)), none, some (.long (lI f)), none, none, none, none, none] [] (shR, J, L', pR) = some (none, (shR, j_up J 0 53 (J 0 53), fqR L' (0, 0), pR)) := by
    rw [B282_14, jgo_some (d := e + 1) rfl und_r]
    dsimp only [Option.toList_some, Option.toList_none, List.cons_append, List.nil_append]
    rw [B282_18, j_up_id]
  have res : ∀ (x : Int32) (u v : Int64), jv (e + 1) 280 0 [some (.ref 0), some (.long u), none, some (.long v), none, none, none] [] (shR, j_up J 0 53 x, L', pR) = some (none, (shR, j_up J 0 53 x, fqR L' (if x = 0 then fS u.toInt v.toInt else (0, 0)), pR)) := by
    intro x u v
    by_cases q : x = 0
    · rw [res_r (by rw [j_up_own, if_pos rfl]; exact q), if_pos q]
    · rw [res_big (by rw [j_up_own, if_pos rfl]; exact q), if_neg q]
  rw [B282_0]
  unfold fA
  by_cases q1 : b = 0
  · exact ⟨_, by rw [if_pos ((lI_0 hb).mpr q1), und, if_pos (Or.inl q1)]⟩
  rw [if_neg (fun z => q1 ((lI_0 hb).mp z))]
  by_cases q2 : f = 0
  · exact ⟨_, by rw [if_pos ((lI_0 hf).mpr q2), und, if_pos (Or.inr q2)]⟩
  rw [if_neg (fun z => q2 ((lI_0 hf).mp z)), if_neg (show ¬ (b = 0 ∨ f = 0) by omega), if_pos (by decide)]
  by_cases q3 : k = 2
  · subst q3
    rw [if_pos (show opR 2 = 14 from rfl), if_pos rfl, jgo_some (d := e + 1) rfl (tim_r2 ha hc 0)]
    dsimp only [Option.toList_some, Option.toList_none, List.cons_append, List.nil_append]
    rw [B282_38, jgo_some (d := e + 1) rfl (tim_r2 hb hf _)]
    dsimp only [Option.toList_some, Option.toList_none, List.cons_append, List.nil_append]
    rw [B282_46, jgo_some (d := e + 1) rfl (res _ _ _)]
    dsimp only [Option.toList_some, Option.toList_none, List.cons_append, List.nil_append]
    rw [B282_49, B282_134]
    refine ⟨if fT b f = none then 1 else if fT a c = none then 1 else 0, ?_⟩
    unfold tqR
    cases h1 : fT a c with
    | none =>
      cases h2 : fT b f with
      | none => rfl
      | some y => rfl
    | some x =>
      cases h2 : fT b f with
      | none => rfl
      | some y => simp only [reduceCtorEq, if_false, if_true]; rw [(fT_b h1).1.i, (fT_b h2).1.i]
  have n14 : ¬ opR k = 14 := by unfold opR; rcases (show k = 0 ∨ k = 1 ∨ k = 3 by omega) with z | z | z <;> subst z <;> decide
  rw [if_neg n14, if_neg q3]
  by_cases q4 : k = 3
  · subst q4
    rw [if_pos (show opR 3 = 15 from rfl), jgo_some (d := e + 1) rfl (tim_r2 ha hf 0)]
    dsimp only [Option.toList_some, Option.toList_none, List.cons_append, List.nil_append]
    rw [B282_65, jgo_some (d := e + 1) rfl (tim_r2 hb hc _)]
    dsimp only [Option.toList_some, Option.toList_none, List.cons_append, List.nil_append]
    rw [B282_78, jgo_some (d := e + 1) rfl (res _ _ _)]
    dsimp only [Option.toList_some, Option.toList_none, List.cons_append, List.nil_append]
    rw [B282_81, B282_134]
    refine ⟨if fT b c = none then 1 else if fT a f = none then 1 else 0, ?_⟩
    unfold tqR
    cases h1 : fT a f with
    | none =>
      cases h2 : fT b c with
      | none => rfl
      | some y => rfl
    | some x =>
      cases h2 : fT b c with
      | none => rfl
      | some y => simp only [reduceCtorEq, if_false, if_true]; rw [(fT_b h1).1.i, (fT_b h2).1.i]
  have n15 : ¬ opR k = 15 := by unfold opR; rcases (show k = 0 ∨ k = 1 by omega) with z | z <;> subst z <;> decide
  rw [if_neg n15, jgo_some (d := e + 1) rfl (tim_r2 ha hf 0)]
  dsimp only [Option.toList_some, Option.toList_none, List.cons_append, List.nil_append]
  rw [B282_91, jgo_some (d := e + 1) rfl (tim_r2 hc hb _)]
  dsimp only [Option.toList_some, Option.toList_none, List.cons_append, List.nil_append]
  rw [B282_101]
  have fin : ∀ s : Int64, ∃ x', jv (e + 2) 282 123 [some (.ref 0), some (.int (opR k)), some (.long (lI a)), none, some (.long (lI b)), none, some (.long (lI c)), none, some (.long (lI f)), none, some (.long (tqR a f)), none, some (.long (tqR c b)), none] [.long s, .ref 0] (shR, j_up J 0 53 (if fT c b = none then 1 else if fT a f = none then 1 else 0), L', pR) = some (none, (shR, j_up J 0 53 x', fqR L' (if fT c b = none ∨ fT a f = none then (0, 0) else (match fT b f with | some z => fS s.toInt z | none => (0, 0))), pR)) := by
    intro s
    rw [B282_123, jgo_some (d := e + 1) rfl (tim_r2 hb hf _)]
    dsimp only [Option.toList_some, Option.toList_none, List.cons_append, List.nil_append]
    rw [B282_131, jgo_some (d := e + 1) rfl (res _ _ _)]
    dsimp only [Option.toList_some, Option.toList_none, List.cons_append, List.nil_append]
    rw [B282_134]
    refine ⟨if fT b f = none then 1 else if fT c b = none then 1 else if fT a f = none then 1 else 0, ?_⟩
    unfold tqR
    cases h1 : fT c b <;> cases h2 : fT a f <;> cases h3 : fT b f <;> simp only [reduceCtorEq, if_false, if_true, or_false, or_true, true_or, false_or] <;> first | rfl | (rw [(fT_b h3).1.i])
  have cb : fT c b = fT b c := by unfold fT; rw [Int.mul_comm]
  by_cases q5 : k = 0
  · subst q5
    rw [if_pos (show opR 0 = 12 from rfl)]
    obtain ⟨x', r⟩ := fin (tqR a f + tqR c b)
    refine ⟨x', ?_⟩
    rw [r, cb]
    cases h1 : fT b c with
    | none => cases h2 : fT a f <;> rfl
    | some y =>
      cases h2 : fT a f with
      | none => rfl
      | some x =>
        have es : (tqR a f + tqR c b).toInt = x + y := by
          unfold tqR
          rw [cb, h1, h2]
          dsimp only
          rw [lI_add]
          exact lI_toInt (by have := (fT_b h1).1.1; have := (fT_b h2).1.1; omega) (by have := (fT_b h1).1.2; have := (fT_b h2).1.2; omega)
        rw [es]
        simp only [reduceCtorEq, or_self, if_false, if_true, show ¬ (0 = 3) by decide]
        cases fT b f <;> rfl
  · have : k = 1 := by omega
    subst this
    rw [if_neg (show ¬ opR 1 = 12 by decide)]
    obtain ⟨x', r⟩ := fin (tqR a f - tqR c b)
    refine ⟨x', ?_⟩
    rw [r, cb]
    cases h1 : fT b c with
    | none => cases h2 : fT a f <;> rfl
    | some y =>
      cases h2 : fT a f with
      | none => rfl
      | some x =>
        have es : (tqR a f - tqR c b).toInt = x - y := by
          unfold tqR
          rw [cb, h1, h2]
          dsimp only
          rw [lI_sub]
          exact lI_toInt (by have := (fT_b h1).1.2; have := (fT_b h2).1.1; omega) (by have := (fT_b h1).1.1; have := (fT_b h2).1.2; omega)
        rw [es]
        simp only [reduceCtorEq, or_self, if_false, if_true, show ¬ (1 = 3) by decide, show ¬ (1 = 0) by decide]
        cases fT b f <;> rfl
theorem F362_0 (d : Nat) (x y : Int64) (S : jS) : jv d 362 0 [some (.long x), none, some (.long y), none] [] S = some (some (.int (if lg_cmp x y < 0 then -1 else if lg_cmp x y = 0 then 0 else 1)), S) := by
  have h : jv d 362 0 [some (.long x), none, some (.long y), none] [] S = if lg_cmp x y < 0 then some (some (.int (-1)), S) else if lg_cmp x y = 0 then some (some (.int 0), S) else some (some (.int 1), S) := (jblk_eq jTT jMM [] d mq_362 14 _ _ _ _).trans rfl
  rw [h]
  by_cases q : lg_cmp x y < 0
  · rw [if_pos q, if_pos q]
  · rw [if_neg q, if_neg q]
    by_cases q2 : lg_cmp x y = 0
    · rw [if_pos q2, if_pos q2]
    · rw [if_neg q2, if_neg q2]
theorem cmp3_c {a b c f : Int} (ha : fB a) (hb : fB b) (hc : fB c) (hf : fB f) : jv (d + 2) 166 0 [some (.long (lI a)), none, some (.long (lI b)), none, some (.long (lI c)), none, some (.long (lI f)), none, none, none, none, none] [] (shC, I, L, pX pa pb pu pw) = some (some (.int (fC a b c f)), (shC, I, L, pX pa pb pu pw)) := by
  rw [B166_0]
  unfold fC
  by_cases q1 : b = 0
  · rw [if_pos ((lI_0 hb).mpr q1), B166_13, if_pos (Or.inl q1)]
  rw [if_neg (fun z => q1 ((lI_0 hb).mp z))]
  by_cases q2 : f = 0
  · rw [if_pos ((lI_0 hf).mpr q2), B166_13, if_pos (Or.inr q2)]
  rw [if_neg (fun z => q2 ((lI_0 hf).mp z)), if_neg (show ¬ (b = 0 ∨ f = 0) by omega), jgo_some (d := d + 1) rfl (tim_c ha hf)]
  dsimp only [Option.toList_some, Option.toList_none, List.cons_append, List.nil_append]
  rw [B166_21, jgo_some (d := d + 1) rfl (tim_c hc hb)]
  dsimp only [Option.toList_some, Option.toList_none, List.cons_append, List.nil_append]
  rw [B166_29]
  have eA : tqC a f = match fT a f with | some x => lI x | none => -9223372036854775808 := rfl
  have eB : tqC c b = match fT c b with | some x => lI x | none => -9223372036854775808 := rfl
  cases h1 : fT a f with
  | none =>
    rw [h1] at eA
    rw [eA, if_pos (by decide), B166_49, B166_60]
  | some x =>
    rw [h1] at eA
    dsimp only at eA
    rw [eA, if_neg (tq_ne h1)]
    cases h2 : fT c b with
    | none =>
      rw [h2] at eB
      rw [eB, if_pos (by decide), B166_49, B166_60]
    | some y =>
      rw [h2] at eB
      dsimp only at eB ⊢
      rw [eB, if_neg (tq_ne h2), jgo_some (d := d + 1) rfl (F362_0 _ _ _ _)]
      dsimp only [Option.toList_some, Option.toList_none, List.cons_append, List.nil_append]
      rw [B166_60]
      have ex := (fT_b h1).1.i
      have ey := (fT_b h2).1.i
      have k1 : lg_cmp (lI x) (lI y) < 0 ↔ x < y := by rw [lcmp_neg, ex, ey]
      have k2 : lg_cmp (lI x) (lI y) = 0 ↔ x = y := by rw [lcmp_e]; exact ⟨fun z => by rw [← ex, ← ey, z], fun z => by rw [z]⟩
      simp only [k1, k2]
theorem cmp3_r {a b c f : Int} (ha : fB a) (hb : fB b) (hc : fB c) (hf : fB f) : ∃ x, jv (e + 1) 283 0 [some (.ref 0), some (.long (lI a)), none, some (.long (lI b)), none, some (.long (lI c)), none, some (.long (lI f)), none, none, none, none, none] [] (shR, J, L', pR) = some (some (.int (fC a b c f)), (shR, j_up J 0 53 x, L', pR)) := by
  rw [B283_0]
  unfold fC
  by_cases q1 : b = 0
  · exact ⟨J 0 53, by rw [if_pos ((lI_0 hb).mpr q1), B283_13, if_pos (Or.inl q1), j_up_id]⟩
  rw [if_neg (fun z => q1 ((lI_0 hb).mp z))]
  by_cases q2 : f = 0
  · exact ⟨J 0 53, by rw [if_pos ((lI_0 hf).mpr q2), B283_13, if_pos (Or.inr q2), j_up_id]⟩
  rw [if_neg (fun z => q2 ((lI_0 hf).mp z)), if_neg (show ¬ (b = 0 ∨ f = 0) by omega), if_pos (by decide), jgo_some (d := e) rfl (tim_r2 ha hf 0)]
  dsimp only [Option.toList_some, Option.toList_none, List.cons_append, List.nil_append]
  rw [B283_27, jgo_some (d := e) rfl (tim_r2 hc hb _)]
  dsimp only [Option.toList_some, Option.toList_none, List.cons_append, List.nil_append]
  rw [B283_36, j_up_own, if_pos rfl]
  refine ⟨if fT c b = none then 1 else if fT a f = none then 1 else 0, ?_⟩
  cases h1 : fT a f with
  | none =>
    cases h2 : fT c b with
    | none => rw [if_pos rfl, if_neg (by decide), B283_74]
    | some y =>
      simp only [reduceCtorEq, if_false, if_true]
      rw [if_neg (show ¬ (1 : Int32) = 0 by decide), B283_74]
  | some x =>
    cases h2 : fT c b with
    | none => rw [if_pos rfl, if_neg (by decide), B283_74]
    | some y =>
      have ex := (fT_b h1).1.i
      have ey := (fT_b h2).1.i
      have e1 : tqR a f = lI x := by unfold tqR; rw [h1]
      have e2 : tqR c b = lI y := by unfold tqR; rw [h2]
      have k1 : lg_cmp (lI x) (lI y) < 0 ↔ x < y := by rw [lcmp_neg, ex, ey]
      have k3 : 0 < lg_cmp (lI x) (lI y) ↔ y < x := by rw [lcmp_pos, ex, ey]
      simp only [reduceCtorEq, if_false, if_true, e1, e2]
      by_cases z1 : x < y
      · rw [if_pos (k1.mpr z1), B283_74, if_pos z1]
      · rw [if_neg (fun z => z1 (k1.mp z)), if_neg z1]
        by_cases z2 : y < x
        · rw [if_pos (k3.mpr z2), B283_74, if_neg (by omega)]
        · rw [if_neg (fun z => z2 (k3.mp z)), B283_74, if_pos (by omega)]
theorem fA_b (k : Nat) (a b c f : Int) : fB (fA k a b c f).1 ∧ 0 ≤ (fA k a b c f).2 ∧ (fA k a b c f).2 ≤ HG := by
  have hH : HG = 1000000000000000000 := rfl
  have z0 : fB (0, (0 : Int)).1 ∧ 0 ≤ ((0 : Int), (0 : Int)).2 ∧ ((0 : Int), (0 : Int)).2 ≤ HG := ⟨⟨by decide, by decide⟩, by decide, by decide⟩
  unfold fA
  by_cases q1 : b = 0 ∨ f = 0
  · rw [if_pos q1]; exact z0
  rw [if_neg q1]
  by_cases q2 : k = 2
  · rw [if_pos q2]
    cases fT a c with
    | none => exact z0
    | some x =>
      cases fT b f with
      | none => exact z0
      | some y => exact fS_b x y
  · rw [if_neg q2]
    cases fT a f with
    | none => exact z0
    | some x =>
      cases fT b c with
      | none => exact z0
      | some y =>
        dsimp only
        by_cases q3 : k = 3
        · rw [if_pos q3]; exact fS_b x y
        · rw [if_neg q3]
          cases fT b f with
          | none => exact z0
          | some z => exact fS_b _ z
end EVAB
