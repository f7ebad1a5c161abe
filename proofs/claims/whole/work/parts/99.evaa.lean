/-! FRACTIONS: what both work out -/
section EVAA
variable {d e : Nat} {I J : Nat → Nat → Int32} {L L' : Nat → Nat → Int64} {pa pb pu pw : Option Nat}
def HG : Int := 1000000000000000000
abbrev fB (x : Int) : Prop := -HG ≤ x ∧ x ≤ HG
def lI (z : Int) : Int64 := Int64.ofInt z
theorem lI_toInt {z : Int} (h1 : -9223372036854775808 ≤ z) (h2 : z < 9223372036854775808) : (lI z).toInt = z := by
  unfold lI
  rw [Int64.toInt_ofInt]
  have : (Int64.size : Int) = 18446744073709551616 := rfl
  exact Int.bmod_eq_of_le (by omega) (by omega)
theorem fB.i {z : Int} (h : fB z) : (lI z).toInt = z := by
  have : HG = 1000000000000000000 := rfl
  exact lI_toInt (by have := h.1; omega) (by have := h.2; omega)
theorem lI_of (x : Int64) : lI x.toInt = x := by
  unfold lI; exact Int64.ofInt_toInt x
theorem lI_mul (a c : Int) : lI a * lI c = lI (a * c) := by unfold lI; rw [Int64.ofInt_mul]
theorem lI_add (a c : Int) : lI a + lI c = lI (a + c) := by unfold lI; rw [Int64.ofInt_add]
theorem lI_sub (a c : Int) : lI a - lI c = lI (a - c) := by unfold lI; rw [Int64.ofInt_sub]
theorem lI_neg (a : Int) : -lI a = lI (-a) := by unfold lI; rw [Int64.ofInt_neg]
theorem lcmp_neg (x y : Int64) : lg_cmp x y < 0 ↔ x.toInt < y.toInt := by
  unfold lg_cmp
  by_cases h1 : x > y
  · rw [if_pos h1]
    have := Int64.lt_iff_toInt_lt.mp h1
    exact ⟨fun z => absurd z (by decide), fun z => by omega⟩
  · rw [if_neg h1]
    have h2 : ¬ y.toInt < x.toInt := fun z => h1 (Int64.lt_iff_toInt_lt.mpr z)
    by_cases h3 : x = y
    · rw [if_pos h3, h3]; exact ⟨fun z => absurd z (by decide), fun z => by omega⟩
    · rw [if_neg h3]
      have h4 : x.toInt ≠ y.toInt := fun z => h3 (Int64.toInt_inj.mp z)
      exact ⟨fun _ => by omega, fun _ => by decide⟩
theorem lgN_lI (n : Nat) : lgN n = lI (n : Int) := by unfold lgN lI; rfl
/-- Euclid's rounds -/
def eu : Nat → Nat → Nat → Nat × Nat
  | 0, x, y => (x, y)
  | n + 1, x, y => if y = 0 then (x, y) else eu n y (x % y)
theorem eu_gcd : ∀ n x y, (eu n x y).2 = 0 → (eu n x y).1 = Nat.gcd x y := by
  intro n
  induction n with
  | zero => intro x y h; show x = _; have h : y = 0 := h; rw [h, Nat.gcd_zero_right]
  | succ n ih =>
    intro x y h
    unfold eu at h ⊢
    by_cases q : y = 0
    · rw [if_pos q, q, Nat.gcd_zero_right]
    · rw [if_neg q] at h ⊢
      rw [ih _ _ h, Nat.gcd_comm x y, Nat.gcd_rec y x, Nat.gcd_comm]
def fbN : Nat → Nat × Nat
  | 0 => (0, 1)
  | n + 1 => ((fbN n).2, (fbN n).1 + (fbN n).2)
theorem eu_low : ∀ n x y, y < x → (eu n x y).2 ≠ 0 → (fbN (n + 1)).1 ≤ y ∧ (fbN (n + 1)).2 ≤ x := by
  intro n
  induction n with
  | zero => intro x y h z; have z : y ≠ 0 := z; show 1 ≤ y ∧ 0 + 1 ≤ x; omega
  | succ n ih =>
    intro x y h z
    unfold eu at z
    by_cases q : y = 0
    · rw [if_pos q] at z; exact absurd q z
    · rw [if_neg q] at z
      have r := ih y (x % y) (Nat.mod_lt _ (by omega)) z
      show (fbN (n + 1)).2 ≤ y ∧ (fbN (n + 1)).1 + (fbN (n + 1)).2 ≤ x
      have m := Nat.div_add_mod x y
      have p : 1 ≤ x / y := (Nat.one_le_div_iff (by omega)).mpr (by omega)
      have : y * 1 ≤ y * (x / y) := Nat.mul_le_mul_left y p
      omega
theorem fb_big : 1000000000000000000 < (fbN 88).1 := by decide +kernel
theorem eu_ends {x y : Nat} (hy : y ≤ 1000000000000000000) (hx : x ≤ 1000000000000000000) : (eu 90 x y).2 = 0 := by
  have key : ∀ x y, y < x → y ≤ 1000000000000000000 → (eu 87 x y).2 = 0 := by
    intro x y h hy
    by_cases q : (eu 87 x y).2 = 0
    · exact q
    · have h1 : (fbN 88).1 ≤ y := (eu_low 87 x y h q).1
      have := fb_big
      omega
  have mono : ∀ n x y, (eu n x y).2 = 0 → (eu (n + 1) x y).2 = 0 := by
    intro n
    induction n with
    | zero => intro x y h; have h : y = 0 := h; unfold eu; rw [if_pos h]; exact h
    | succ n ih =>
      intro x y h
      unfold eu at h ⊢
      by_cases q : y = 0
      · rw [if_pos q]; exact q
      · rw [if_neg q] at h ⊢; exact ih _ _ h
  by_cases q : y = 0
  · unfold eu; rw [if_pos q]; exact q
  · unfold eu
    rw [if_neg q]
    exact mono 88 _ _ (mono 87 _ _ (key y (x % y) (Nat.mod_lt _ (by omega)) (by have := Nat.mod_lt x (show 0 < y by omega); omega)))
/-- the lowest terms -/
def fS (n d : Int) : Int × Int := if (n ≤ HG ∧ -HG ≤ n) ∧ (d ≤ HG ∧ -HG ≤ d) ∧ d ≠ 0 then ((if d < 0 then -n else n).tdiv (Nat.gcd n.natAbs d.natAbs), ((d.natAbs : Int)).tdiv (Nat.gcd n.natAbs d.natAbs)) else (0, 0)
def fT (a c : Int) : Option Int := if -HG ≤ a * c ∧ a * c ≤ HG then some (a * c) else none
/-- 0 plus, 1 minus, 2 times, 3 by -/
def fA (op : Nat) (a b c d : Int) : Int × Int := if b = 0 ∨ d = 0 then (0, 0) else if op = 2 then (match fT a c, fT b d with | some x, some y => fS x y | _, _ => (0, 0)) else (match fT a d, fT b c with | some x, some y => if op = 3 then fS x y else (match fT b d with | some z => fS (if op = 0 then x + y else x - y) z | none => (0, 0)) | _, _ => (0, 0))
def fC (a b c d : Int) : Int32 := if b = 0 ∨ d = 0 then 2 else (match fT a d, fT c b with | some x, some y => if x < y then -1 else if x = y then 0 else 1 | _, _ => 2)
/-- the latest number, in both -/
def fqC (L : Nat → Nat → Int64) (p : Int × Int) : Nat → Nat → Int64 := j_up (j_up L 116 6 (lI p.1)) 116 7 (lI p.2)
def fqR (L : Nat → Nat → Int64) (p : Int × Int) : Nat → Nat → Int64 := j_up (j_up L 0 54 (lI p.1)) 0 55 (lI p.2)
theorem fqC_fqC (L : Nat → Nat → Int64) (p q : Int × Int) : fqC (fqC L p) q = fqC L q := by
  unfold fqC
  funext c i
  by_cases h : c = 116
  · subst h
    rw [j_up_own, j_up_own, j_up_own, j_up_own, j_up_own, j_up_own]
    by_cases h1 : i = 7 <;> by_cases h2 : i = 6 <;> simp [h1, h2]
  · rw [j_up_cell _ h, j_up_cell _ h, j_up_cell _ h, j_up_cell _ h, j_up_cell _ h, j_up_cell _ h]
theorem fqR_fqR (L : Nat → Nat → Int64) (p q : Int × Int) : fqR (fqR L p) q = fqR L q := by
  unfold fqR
  funext c i
  by_cases h : c = 0
  · subst h
    rw [j_up_own, j_up_own, j_up_own, j_up_own, j_up_own, j_up_own]
    by_cases h1 : i = 55 <;> by_cases h2 : i = 54 <;> simp [h1, h2]
  · rw [j_up_cell _ h, j_up_cell _ h, j_up_cell _ h, j_up_cell _ h, j_up_cell _ h, j_up_cell _ h]
theorem fqC_6 (p : Int × Int) : fqC L p 116 6 = lI p.1 := by unfold fqC; rw [j_up_own, if_neg (by decide), j_up_own, if_pos rfl]
theorem fqC_7 (p : Int × Int) : fqC L p 116 7 = lI p.2 := by unfold fqC; rw [j_up_own, if_pos rfl]
theorem fqR_54 (p : Int × Int) : fqR L p 0 54 = lI p.1 := by unfold fqR; rw [j_up_own, if_neg (by decide), j_up_own, if_pos rfl]
theorem fqR_55 (p : Int × Int) : fqR L p 0 55 = lI p.2 := by unfold fqR; rw [j_up_own, if_pos rfl]
theorem fqC_c {c : Nat} (p : Int × Int) (h : c ≠ 116) : fqC L p c = L c := by unfold fqC; rw [j_up_cell _ h, j_up_cell _ h]
theorem fqR_c {c : Nat} (p : Int × Int) (h : c ≠ 0) : fqR L p c = L c := by unfold fqR; rw [j_up_cell _ h, j_up_cell _ h]
theorem fqR_q {q : Nat} (p : Int × Int) (h : q ≠ 54) (h2 : q ≠ 55) : fqR L p 0 q = L 0 q := by unfold fqR; rw [j_up_own, if_neg h2, j_up_own, if_neg h]
theorem gcd_le {x y : Nat} (hy : y ≠ 0) : 1 ≤ Nat.gcd x y ∧ Nat.gcd x y ≤ y := ⟨Nat.gcd_pos_of_pos_right x (by omega), Nat.le_of_dvd (by omega) (Nat.gcd_dvd_right x y)⟩
theorem tdiv_b {n : Int} {g : Nat} (hg : 1 ≤ g) : -(n.natAbs : Int) ≤ n.tdiv g ∧ n.tdiv g ≤ (n.natAbs : Int) := by
  have h := Int.natAbs_tdiv n g
  have h2 : (n.tdiv g).natAbs ≤ n.natAbs := by
    rw [h]
    exact Nat.div_le_self _ _
  omega
theorem fS_b (n d : Int) : fB (fS n d).1 ∧ 0 ≤ (fS n d).2 ∧ (fS n d).2 ≤ HG := by
  have hH : HG = 1000000000000000000 := rfl
  unfold fS
  by_cases q : (n ≤ HG ∧ -HG ≤ n) ∧ (d ≤ HG ∧ -HG ≤ d) ∧ d ≠ 0
  · rw [if_pos q]
    have g1 := (gcd_le (x := n.natAbs) (y := d.natAbs) (by omega)).1
    have a1 := tdiv_b (n := if d < 0 then -n else n) g1
    have a2 := tdiv_b (n := (d.natAbs : Int)) g1
    have a3 : 0 ≤ ((d.natAbs : Int)).tdiv (Nat.gcd n.natAbs d.natAbs) := Int.tdiv_nonneg (by omega) (by omega)
    have b1 : (if d < 0 then -n else n).natAbs = n.natAbs := by by_cases h : d < 0 <;> simp [h]
    rw [b1] at a1
    exact ⟨⟨by omega, by omega⟩, a3, by omega⟩
  · rw [if_neg q]
    exact ⟨⟨by omega, by omega⟩, by omega, by omega⟩
theorem labs {x : Int64} (h : fB x.toInt) : (if (0 : Int64) < x then x else -x) = lgN x.toInt.natAbs := by
  have hH : HG = 1000000000000000000 := rfl
  obtain ⟨h1, h2⟩ := h
  have e0 : (0 : Int64).toInt = 0 := rfl
  rw [lgN_lI]
  by_cases q : (0 : Int64) < x
  · have := Int64.lt_iff_toInt_lt.mp q
    rw [if_pos q, show ((x.toInt.natAbs : Nat) : Int) = x.toInt by omega, lI_of]
  · have : ¬ (0 : Int) < x.toInt := fun z => q (Int64.lt_iff_toInt_lt.mpr z)
    rw [if_neg q, show ((x.toInt.natAbs : Nat) : Int) = -x.toInt by omega, ← lI_neg, lI_of]
theorem labs2 {x : Int64} (h : fB x.toInt) : (if lg_cmp x 0 < 0 then -x else x) = lgN x.toInt.natAbs := by
  have hH : HG = 1000000000000000000 := rfl
  obtain ⟨h1, h2⟩ := h
  have e0 : (0 : Int64).toInt = 0 := rfl
  rw [lgN_lI]
  by_cases q : lg_cmp x 0 < 0
  · have := (lcmp_neg _ _).mp q
    rw [if_pos q, show ((x.toInt.natAbs : Nat) : Int) = -x.toInt by omega, ← lI_neg, lI_of]
  · have : ¬ x.toInt < 0 := fun z => q ((lcmp_neg _ _).mpr z)
    rw [if_neg q, show ((x.toInt.natAbs : Nat) : Int) = x.toInt by omega, lI_of]
theorem ldiv {n : Int} {g : Nat} (hn : fB n) (hg : 1 ≤ g) (hg2 : g ≤ 1000000000000000000) : lI n / lgN g = lI (n.tdiv g) := by
  have hH : HG = 1000000000000000000 := rfl
  obtain ⟨h1, h2⟩ := hn
  have b := tdiv_b (n := n) hg
  apply Int64.toInt_inj.mp
  rw [Int64.toInt_div, lI_toInt (by omega) (by omega), lgN_toInt (by omega), lI_toInt (by omega) (by omega)]
  exact Int.bmod_eq_of_le (by omega) (by omega)
theorem bey_c (x : Int64) : jv d 163 0 [some (.long x), none] [] (shC, I, L, pX pa pb pu pw) = some (some (.int (if fB x.toInt then 0 else 1)), (shC, I, L, pX pa pb pu pw)) := by
  have e1 : (1000000000000000000 : Int64).toInt = HG := by decide
  have e2 : (-1000000000000000000 : Int64).toInt = -HG := by decide
  rw [B163_0]
  by_cases q1 : 0 < lg_cmp x 1000000000000000000
  · have := (lcmp_pos _ _).mp q1
    rw [if_pos q1, B163_16, B163_21, if_pos (by decide), if_neg (show ¬ fB x.toInt from fun z => by have := z.2; omega)]
  · have n1 : ¬ HG < x.toInt := fun z => q1 ((lcmp_pos _ _).mpr (by omega))
    rw [if_neg q1]
    by_cases q2 : lg_cmp x (-1000000000000000000) < 0
    · have := (lcmp_neg _ _).mp q2
      rw [if_pos q2, B163_16, B163_21, if_pos (by decide), if_neg (show ¬ fB x.toInt from fun z => by have := z.1; omega)]
    · have n2 : ¬ x.toInt < -HG := fun z => q2 ((lcmp_neg _ _).mpr (by omega))
      rw [if_neg q2, B163_21, if_pos (by decide), if_pos (show fB x.toInt from ⟨by omega, by omega⟩)]
theorem und_c : jv d 161 0 [some (.ref 116)] [] (shC, I, L, pX pa pb pu pw) = some (none, (shC, I, fqC L (0, 0), pX pa pb pu pw)) := by
  rw [B161_0]; rfl
theorem und_r : jv e 281 0 [some (.ref 0)] [] (shR, J, L', pR) = some (none, (shR, J, fqR L' (0, 0), pR)) := by
  rw [B281_0]; rfl
theorem gcd_l (l1 l3 : Int64) : ∀ (n x y i : Nat) (o10 o11 : Option Value), (eu n x y).2 = 0 → x < 2 ^ 63 → y < 2 ^ 63 → i + n ≤ 100 → ∃ z i' o10' o11', jv d 162 40 [some (.ref 116), some (.long l1), none, some (.long l3), none, some (.long (lgN x)), none, some (.long (lgN y)), none, some (.int (nI i)), o10, o11] [] (shC, I, L, pX pa pb pu pw) = jv d 162 75 [some (.ref 116), some (.long l1), none, some (.long l3), none, some (.long (lgN (Nat.gcd x y))), none, some (.long z), none, some (.int i'), o10', o11'] [] (shC, I, L, pX pa pb pu pw) := by
  intro n
  induction n with
  | zero =>
    intro x y i o10 o11 h hx hy hi
    have h : y = 0 := h
    subst h
    rw [Nat.gcd_zero_right, B162_40]
    by_cases q : nI i < 100
    · rw [if_pos q, if_pos (show lg_cmp (lgN 0) 0 = 0 from rfl)]; exact ⟨_, _, _, _, rfl⟩
    · rw [if_neg q]; exact ⟨_, _, _, _, rfl⟩
  | succ n ih =>
    intro x y i o10 o11 h hx hy hi
    unfold eu at h
    rw [B162_40]
    by_cases q : y = 0
    · subst q
      rw [Nat.gcd_zero_right]
      by_cases q : nI i < 100
      · rw [if_pos q, if_pos (show lg_cmp (lgN 0) 0 = 0 from rfl)]; exact ⟨_, _, _, _, rfl⟩
      · rw [if_neg q]; exact ⟨_, _, _, _, rfl⟩
    · rw [if_neg q] at h
      have ny : lgN y ≠ 0 := fun z => q ((lgN_eq (b := 0) hy (by decide)).mp z)
      rw [if_pos (show nI i < (100 : Int32) from nI_lt (b := 100) (by omega) (by decide)), if_neg (fun z => ny ((lcmp_0 _).mp z)), if_neg ny, lgN_mod hx hy, show nI i + 1 = nI (i + 1) from nI_add i 1]
      obtain ⟨z, i', a, b, r⟩ := ih y (x % y) (i + 1) (some (.long (lgN (x % y)))) none h hy (by have := Nat.mod_lt x (show 0 < y by omega); omega) (by omega)
      refine ⟨z, i', a, b, ?_⟩
      rw [r, Nat.gcd_comm x y, Nat.gcd_rec y x, Nat.gcd_comm]
/-- the first one's set -/
theorem set_c (x y : Int64) : jv (d + 1) 162 0 [some (.ref 116), some (.long x), none, some (.long y), none, none, none, none, none, none, none, none] [] (shC, I, L, pX pa pb pu pw) = some (none, (shC, I, fqC L (fS x.toInt y.toInt), pX pa pb pu pw)) := by
  have hH : HG = 1000000000000000000 := rfl
  rw [B162_0, jgo_some (d := d) rfl und_c]
  dsimp only [Option.toList_some, Option.toList_none, List.cons_append, List.nil_append]
  rw [B162_4, jgo_some (d := d) rfl (bey_c x)]
  dsimp only [Option.toList_some, Option.toList_none, List.cons_append, List.nil_append]
  rw [B162_8]
  unfold fS
  by_cases q1 : fB x.toInt
  case neg => rw [if_neg q1, if_neg (by decide), B162_24, if_neg (fun z => q1 ⟨z.1.2, z.1.1⟩)]
  rw [if_pos q1, if_pos rfl, jgo_some (d := d) rfl (bey_c y)]
  dsimp only [Option.toList_some, Option.toList_none, List.cons_append, List.nil_append]
  rw [B162_15]
  by_cases q2 : fB y.toInt
  case neg => rw [if_neg q2, if_neg (by decide), B162_24, if_neg (fun z => q2 ⟨z.2.1.2, z.2.1.1⟩)]
  rw [if_pos q2, if_pos rfl]
  by_cases q3 : y = 0
  · rw [if_pos ((lcmp_0 _).mpr q3), B162_24, if_neg (fun z => z.2.2 (by rw [q3]; rfl))]
  have q3' : y.toInt ≠ 0 := fun z => q3 (Int64.toInt_inj.mp z)
  rw [if_neg (fun z => q3 ((lcmp_0 _).mp z)), labs q1, labs q2, show (0 : Int32) = nI 0 from rfl]
  have bx : x.toInt.natAbs ≤ 1000000000000000000 := by have := q1.1; have := q1.2; omega
  have b_y : y.toInt.natAbs ≤ 1000000000000000000 := by have := q2.1; have := q2.2; omega
  obtain ⟨z, i', o10, o11, r⟩ := gcd_l (d := d + 1) (I := I) (L := fqC L (0, 0)) (pa := pa) (pb := pb) (pu := pu) (pw := pw) x y 90 x.toInt.natAbs y.toInt.natAbs 0 none none (eu_ends b_y bx) (by omega) (by omega) (by decide)
  have g := gcd_le (x := x.toInt.natAbs) (y := y.toInt.natAbs) (by omega)
  have ng : lgN (Nat.gcd x.toInt.natAbs y.toInt.natAbs) ≠ 0 := fun z => by have := (lgN_eq (b := 0) (by omega) (by decide)).mp z; omega
  rw [r, B162_75, if_neg (fun z => ng ((lcmp_0 _).mp z)), if_pos (show (x.toInt ≤ HG ∧ -HG ≤ x.toInt) ∧ (y.toInt ≤ HG ∧ -HG ≤ y.toInt) ∧ y.toInt ≠ 0 from ⟨⟨q1.2, q1.1⟩, ⟨q2.2, q2.1⟩, q3'⟩)]
  have dy : lgN y.toInt.natAbs / lgN (Nat.gcd x.toInt.natAbs y.toInt.natAbs) = lI ((y.toInt.natAbs : Int).tdiv (Nat.gcd x.toInt.natAbs y.toInt.natAbs)) := by
    rw [lgN_lI]; exact ldiv ⟨by omega, by omega⟩ g.1 (by omega)
  have fin : ∀ t : Int, j_up (j_up (fqC L (0, 0)) 116 6 (lI t)) 116 7 (lI ((y.toInt.natAbs : Int).tdiv (Nat.gcd x.toInt.natAbs y.toInt.natAbs))) = fqC L (t, (y.toInt.natAbs : Int).tdiv (Nat.gcd x.toInt.natAbs y.toInt.natAbs)) := fun t => fqC_fqC L (0, 0) (t, _)
  by_cases q4 : lg_cmp y 0 < 0
  · have q5 : y.toInt < 0 := (lcmp_neg _ _).mp q4
    have dx : (-x) / lgN (Nat.gcd x.toInt.natAbs y.toInt.natAbs) = lI ((-x.toInt).tdiv (Nat.gcd x.toInt.natAbs y.toInt.natAbs)) := by
      rw [show -x = lI (-x.toInt) by rw [← lI_neg, lI_of]]; exact ldiv ⟨by have := q1.2; omega, by have := q1.1; omega⟩ g.1 (by omega)
    rw [if_pos q4, if_neg ng, B162_102, if_neg ng, labs q2, dx, dy, fin, if_pos q5]
  · have q5 : ¬ y.toInt < 0 := fun z => q4 ((lcmp_neg _ _).mpr z)
    have dx : x / lgN (Nat.gcd x.toInt.natAbs y.toInt.natAbs) = lI ((x.toInt).tdiv (Nat.gcd x.toInt.natAbs y.toInt.natAbs)) := by
      have := ldiv (n := x.toInt) q1 g.1 (by omega)
      rw [lI_of] at this; exact this
    rw [if_neg q4, if_neg ng, B162_102, if_neg ng, labs q2, dx, dy, fin, if_neg q5]
end EVAA
