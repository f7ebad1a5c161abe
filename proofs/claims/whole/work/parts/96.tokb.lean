/-! RULES: one token in both -/
section TOKB
variable {d e : Nat} {I J : Nat → Nat → Int32} {L L' : Nat → Nat → Int64} {pa pb pu pw : Option Nat} {m : Nat → Int32}
/-- a word's number in the class, in the reference; a number's value -/
def vC (m : Nat → Int32) (k : Nat) : Nat → Int64
  | 0 => 0
  | l + 1 => vC m k l * 27 + (nI (txB m (k + l))).toInt64 - 97 + 1
def vR (m : Nat → Int32) (k : Nat) : Nat → Int64
  | 0 => 0
  | l + 1 => (vR m k l <<< ((8 : Int32).toInt64 &&& 63)) ||| (nI (txB m (k + l))).toInt64
def vN (m : Nat → Int32) (k : Nat) : Nat → Int64
  | 0 => 0
  | l + 1 => vN m k l * 10 + (nI (txB m (k + l))).toInt64 - 48
def vM (m : Nat → Int32) (k : Nat) : Nat → Int64
  | 0 => 0
  | l + 1 => if l < 9 then vM m k l * 10 + (nI (txB m (k + l))).toInt64 - 48 else vM m k l
theorem vM_eq (k : Nat) : ∀ l, l ≤ 9 → vM m k l = vN m k l := by
  intro l
  induction l with
  | zero => intro _; rfl
  | succ l ih => intro h; show (if l < 9 then _ else _) = _; rw [if_pos (by omega), ih (by omega)]; rfl
/-- the signs -/
def sgL : List Nat := [43, 45, 42, 47, 40, 41, 91, 93, 44, 59, 58, 61, 35, 60, 62]
theorem sg_c : ∀ b, b < 256 → (j_ix ((nI b).toUInt32 % 65536).toInt32 y_3 0 < 0 ↔ ¬ b ∈ sgL) := by decide +kernel
theorem sg_r : ∀ b, b < 256 → (j_ix (nI b) y_4 0 < 0 ↔ ¬ b ∈ sgL) := by decide +kernel
theorem sg_not : ∀ b, b < 256 → b ∈ sgL → ¬ isL b ∧ ¬ isD b ∧ b ≠ 32 ∧ b ≠ 10 := by decide +kernel
/-- the token written down -/
def tkI (I : Nat → Nat → Int32) (T : Nat) (kd at' : Nat) : Nat → Nat → Int32 := j_up (j_up (j_up I 28 T (nI kd)) 29 T (nI at')) 27 6 (nI (T + 1))
def tkJ (J : Nat → Nat → Int32) (T : Nat) (kd at' : Nat) : Nat → Nat → Int32 := j_up (j_up (j_up J 18 T (nI kd)) 19 T (nI at')) 0 27 (nI (T + 1))
theorem tok_r {T kd at' : Nat} {v : Int64} (hT : J 0 27 = nI T) (ht : T < 1202) : jv e 257 0 [some (.ref 0), some (.int (nI kd)), some (.int (nI at')), some (.long v), none] [] (shR, J, L', pR) = some (none, (shR, tkJ J T kd at', j_up L' 20 T v, pR)) := by
  have c1 : (nI T).toNatClampNeg = T := nI_clamp (by omega)
  have g : ∀ (F : Nat → Nat → Int32) c k v, c ≠ 0 → j_up F c k v 0 27 = F 0 27 := fun F c k v h => by rw [j_up_cell F (Ne.symm h)]
  have g1 : j_up J 18 T (nI kd) 0 27 = nI T := by rw [g _ _ _ _ (by decide), hT]
  have g2 : j_up (j_up J 18 T (nI kd)) 19 T (nI at') 0 27 = nI T := by rw [g _ _ _ _ (by decide), g1]
  rw [B257_0]
  simp only [hT, c1, g1, g2]
  rw [if_pos (j_in_nI ht (by decide))]
  rw [if_pos (j_in_nI ht (by decide)), if_pos (j_in_nI ht (by decide)), show nI T + 1 = nI (T + 1) from nI_add T 1]
  rfl
theorem fails_r (h0 : J 0 29 = 0) (k at' : Int32) : jv e 253 0 [some (.ref 0), some (.int k), some (.int at')] [] (shR, J, L', pR) = some (some (.int 0), (shR, j_up (j_up J 0 29 k) 0 30 at', L', pR)) := by
  rw [B253_0, if_pos h0, B253_17, if_pos bl_0]
theorem fails_r1 (h0 : J 0 29 ≠ 0) (k at' : Int32) : jv e 253 0 [some (.ref 0), some (.int k), some (.int at')] [] (shR, J, L', pR) = some (some (.int 0), (shR, J, L', pR)) := by
  rw [B253_0, if_neg h0, B253_17, if_pos bl_0]
/-- a sign's length and kind -/
def sgN (m : Nat → Int32) (n k : Nat) : Nat := if (txB m k = 60 ∨ txB m k = 62) ∧ k + 1 < n ∧ txB m (k + 1) = 61 then 2 else 1
def sgK (m : Nat → Int32) (n k : Nat) : Nat := if (txB m k = 60 ∨ txB m k = 62) ∧ k + 1 < n ∧ txB m (k + 1) = 61 then (if txB m k = 60 then 108 else 103) else txB m k
/-- what the class writes behind the bytes of a token -/
theorem tokw_c1 {at' n T l kd : Nat} {v : Int64} {b : Int32} {o11 : Option Value} (hT : I 27 6 = nI T) (ht : T < 1201) (hl : l ≤ 1200) : jv d 4 211 [some (.ref 27), some (.ref 1), some (.int (nI at')), some (.int (nI n)), some (.int b), some (.int 1), some (.int 0), some (.int (nI l)), some (.int (nI kd)), some (.long v), none, o11] [] (shC, I, L, pX pa pb pu pw) = some (some (.int (nI l)), if 8 < l then (shC, j_up (j_up I 27 0 1) 27 1 (nI at'), L, pX pa pb pu pw) else (shC, tkI I T kd at', j_up L 30 T v, pX pa pb pu pw)) := by
  have c1 : (nI T).toNatClampNeg = T := nI_clamp (by omega)
  have g : ∀ (F : Nat → Nat → Int32) c k v, c ≠ 27 → j_up F c k v 27 6 = F 27 6 := fun F c k v h => by rw [j_up_cell F (Ne.symm h)]
  have g1 : j_up I 28 T (nI kd) 27 6 = nI T := by rw [g _ _ _ _ (by decide), hT]
  have g2 : j_up (j_up I 28 T (nI kd)) 29 T (nI at') 27 6 = nI T := by rw [g _ _ _ _ (by decide), g1]
  rw [B4_211_m1, if_neg (by decide), B4_225_m1, B4_226_m1, if_pos rfl, B4_244_m1, if_neg (by decide)]
  by_cases q : 8 < l
  · rw [if_pos (show (8 : Int32) < nI l from nI_lt (a := 8) q (by omega)), B4_268_m1, if_pos q]
  · rw [if_neg (show ¬ (8 : Int32) < nI l from nI_nlt (a := 8) (by omega) (by decide)), B4_256_m1, if_pos rfl, B4_281_m1, if_neg q]
    simp only [hT, c1, g1, g2]
    rw [if_pos (j_in_nI ht (by decide)), if_pos (j_in_nI ht (by decide)), if_pos (j_in_nI ht (by decide)), show nI T + 1 = nI (T + 1) from nI_add T 1]
    rfl
theorem tokn_c1 {at' n T l kd : Nat} {v : Int64} {b : Int32} {o11 : Option Value} (hT : I 27 6 = nI T) (ht : T < 1201) (hl : l ≤ 1200) : jv d 4 211 [some (.ref 27), some (.ref 1), some (.int (nI at')), some (.int (nI n)), some (.int b), some (.int 0), some (.int 1), some (.int (nI l)), some (.int (nI kd)), some (.long v), none, o11] [] (shC, I, L, pX pa pb pu pw) = some (some (.int (nI l)), if 9 < l then (shC, j_up (j_up I 27 0 1) 27 1 (nI at'), L, pX pa pb pu pw) else (shC, tkI I T kd at', j_up L 30 T v, pX pa pb pu pw)) := by
  have c1 : (nI T).toNatClampNeg = T := nI_clamp (by omega)
  have g : ∀ (F : Nat → Nat → Int32) c k v, c ≠ 27 → j_up F c k v 27 6 = F 27 6 := fun F c k v h => by rw [j_up_cell F (Ne.symm h)]
  have g1 : j_up I 28 T (nI kd) 27 6 = nI T := by rw [g _ _ _ _ (by decide), hT]
  have g2 : j_up (j_up I 28 T (nI kd)) 29 T (nI at') 27 6 = nI T := by rw [g _ _ _ _ (by decide), g1]
  rw [B4_211_m1, if_pos rfl, if_neg (by decide), B4_225_m1, B4_226_m1, if_pos rfl, B4_244_m1, if_pos rfl, B4_256_m1, if_neg (by decide)]
  by_cases q : 9 < l
  · rw [if_pos (show (9 : Int32) < nI l from nI_lt (a := 9) q (by omega)), B4_268_m1, if_pos q]
  · rw [if_neg (show ¬ (9 : Int32) < nI l from nI_nlt (a := 9) (by omega) (by decide)), B4_281_m1, if_neg q]
    simp only [hT, c1, g1, g2]
    rw [if_pos (j_in_nI ht (by decide)), if_pos (j_in_nI ht (by decide)), if_pos (j_in_nI ht (by decide)), show nI T + 1 = nI (T + 1) from nI_add T 1]
    rfl
theorem toks_c1 {at' n T l kd b : Nat} {v : Int64} {o11 : Option Value} (hT : I 27 6 = nI T) (ht : T < 1201) (hb : b < 256) : jv d 4 211 [some (.ref 27), some (.ref 1), some (.int (nI at')), some (.int (nI n)), some (.int (nI b)), some (.int 0), some (.int 0), some (.int (nI l)), some (.int (nI kd)), some (.long v), none, o11] [] (shC, I, L, pX pa pb pu pw) = some (some (.int (nI l)), if b ∈ sgL then (shC, tkI I T kd at', j_up L 30 T v, pX pa pb pu pw) else (shC, j_up (j_up I 27 0 1) 27 1 (nI at'), L, pX pa pb pu pw)) := by
  have c1 : (nI T).toNatClampNeg = T := nI_clamp (by omega)
  have g : ∀ (F : Nat → Nat → Int32) c k v, c ≠ 27 → j_up F c k v 27 6 = F 27 6 := fun F c k v h => by rw [j_up_cell F (Ne.symm h)]
  have g1 : j_up I 28 T (nI kd) 27 6 = nI T := by rw [g _ _ _ _ (by decide), hT]
  have g2 : j_up (j_up I 28 T (nI kd)) 29 T (nI at') 27 6 = nI T := by rw [g _ _ _ _ (by decide), g1]
  rw [B4_211_m1, if_pos rfl, if_pos rfl, B4_226_m1, if_neg (by decide)]
  by_cases q : b ∈ sgL
  · rw [if_neg (fun z => (sg_c b hb).mp z q), B4_244_m1, if_pos rfl, B4_256_m1, if_pos rfl, B4_281_m1, if_pos q]
    simp only [hT, c1, g1, g2]
    rw [if_pos (j_in_nI ht (by decide)), if_pos (j_in_nI ht (by decide)), if_pos (j_in_nI ht (by decide)), show nI T + 1 = nI (T + 1) from nI_add T 1]
    rfl
  · rw [if_pos ((sg_c b hb).mpr q), B4_268_m1, if_neg q]
/-- token() at a word -/
theorem tokW_c1 (hI : ∀ q, q < 1189 → I 2 q = m q) {at' n T l : Nat} (hT : I 27 6 = nI T) (ht : T < 1201) (hn : n ≤ 1200) (hl : at' + l ≤ n) (h1 : 1 ≤ l) (hw : ∀ j, j < l → isL (txB m (at' + j))) (he : at' + l = n ∨ ¬ isL (txB m (at' + l))) : jv (d + 3) 4 0 [some (.ref 27), some (.ref 1), some (.int (nI at')), some (.int (nI n)), none, none, none, none, none, none, none, none] [] (shC, I, L, pX pa pb pu pw) = some (some (.int (nI l)), if 8 < l then (shC, j_up (j_up I 27 0 1) 27 1 (nI at'), L, pX pa pb pu pw) else (shC, tkI I T 97 at', j_up L 30 T (vC m at' l), pX pa pb pu pw)) := by
  have tb : ∀ i, i < 1200 → ∀ K, jgo jTT jMM (d + 3) 53 [.ref 1, .int (nI i)] (shC, I, L, pX pa pb pu pw) K = K (some (.int (nI (txB m i)))) (shC, I, L, pX pa pb pu pw) := fun i hi K => jgo_some (d := d + 2) rfl (tb1_c hI hi)
  have lt : ∀ i K, jgo jTT jMM (d + 3) 5 [.int (nI (txB m i))] (shC, I, L, pX pa pb pu pw) K = K (some (.int (if isL (txB m i) then 1 else 0))) (shC, I, L, pX pa pb pu pw) := fun i K => jgo_some (d := d + 2) rfl (let_c (txB_eq m i).2)
  have dg : ∀ i K, jgo jTT jMM (d + 3) 6 [.int (nI (txB m i))] (shC, I, L, pX pa pb pu pw) K = K (some (.int (if isD (txB m i) then 1 else 0))) (shC, I, L, pX pa pb pu pw) := fun i K => jgo_some (d := d + 2) rfl (dig_c (txB_eq m i).2)
  have w0 : isL (txB m at') := hw 0 h1
  rw [B4_0_m1, tb _ (by omega)]
  dsimp only [Option.toList_some, List.cons_append, List.nil_append]
  rw [B4_5_m1, lt, if_pos w0]
  dsimp only [Option.toList_some, List.cons_append, List.nil_append]
  rw [B4_12_m1, dg, if_neg (show ¬ isD (txB m at') by unfold isD; unfold isL at w0; omega)]
  dsimp only [Option.toList_some, List.cons_append, List.nil_append]
  rw [B4_19_m1, if_neg (by decide), B4_41_m1, if_neg (by decide), B4_53_m1]
  have key := j_run (fun i => jv (d + 3) 4 61 [some (.ref 27), some (.ref 1), some (.int (nI at')), some (.int (nI n)), some (.int (nI (txB m at'))), some (.int 1), some (.int 0), some (.int (nI i)), some (.int 97), some (.long (vC m at' i)), none, some (.int (nI (at' + i)))] [] (shC, I, L, pX pa pb pu pw)) l (fun i hi => by
    show jv (d + 3) 4 61 _ _ _ = jv (d + 3) 4 61 _ _ _
    rw [B4_61_m1, if_pos (nI_lt (by omega) (by omega)), if_neg (by decide), tb _ (by omega)]
    dsimp only [Option.toList_some, List.cons_append, List.nil_append]
    rw [B4_78_m1, lt, if_pos (hw i hi)]
    dsimp only [Option.toList_some, List.cons_append, List.nil_append]
    rw [B4_81_m1, if_neg (by decide), B4_99_m1, if_neg (by decide), tb _ (by omega)]
    dsimp only [Option.toList_some, List.cons_append, List.nil_append]
    rw [B4_116_m1, B4_145_m1, show nI i + 1 = nI (i + 1) from nI_add i 1, show nI (at' + i) + 1 = nI (at' + (i + 1)) from nI_add _ 1]
    rfl)
  refine Eq.trans key ?_
  show jv (d + 3) 4 61 _ _ _ = _
  have en : jv (d + 3) 4 61 [some (.ref 27), some (.ref 1), some (.int (nI at')), some (.int (nI n)), some (.int (nI (txB m at'))), some (.int 1), some (.int 0), some (.int (nI l)), some (.int 97), some (.long (vC m at' l)), none, some (.int (nI (at' + l)))] [] (shC, I, L, pX pa pb pu pw) = jv (d + 3) 4 156 [some (.ref 27), some (.ref 1), some (.int (nI at')), some (.int (nI n)), some (.int (nI (txB m at'))), some (.int 1), some (.int 0), some (.int (nI l)), some (.int 97), some (.long (vC m at' l)), none, some (.int (nI (at' + l)))] [] (shC, I, L, pX pa pb pu pw) := by
    rw [B4_61_m1]
    by_cases q : at' + l < n
    · rw [if_pos (nI_lt q (by omega)), if_neg (by decide), tb _ (by omega)]
      dsimp only [Option.toList_some, List.cons_append, List.nil_append]
      rw [B4_78_m1, lt, if_neg (he.resolve_left (by omega))]
      dsimp only [Option.toList_some, List.cons_append, List.nil_append]
      rw [B4_81_m1, if_pos rfl]
    · rw [if_neg (nI_nlt (by omega) (by omega))]
  rw [en, B4_156_m1]
  exact tokw_c1 (kd := 97) hT ht (by omega)
/-- token() at a number -/
theorem tokN_c1 (hI : ∀ q, q < 1189 → I 2 q = m q) {at' n T l : Nat} (hT : I 27 6 = nI T) (ht : T < 1201) (hn : n ≤ 1200) (hl : at' + l ≤ n) (h1 : 1 ≤ l) (hw : ∀ j, j < l → isD (txB m (at' + j))) (he : at' + l = n ∨ ¬ isD (txB m (at' + l))) : jv (d + 3) 4 0 [some (.ref 27), some (.ref 1), some (.int (nI at')), some (.int (nI n)), none, none, none, none, none, none, none, none] [] (shC, I, L, pX pa pb pu pw) = some (some (.int (nI l)), if 9 < l then (shC, j_up (j_up I 27 0 1) 27 1 (nI at'), L, pX pa pb pu pw) else (shC, tkI I T 48 at', j_up L 30 T (vN m at' l), pX pa pb pu pw)) := by
  have tb : ∀ i, i < 1200 → ∀ K, jgo jTT jMM (d + 3) 53 [.ref 1, .int (nI i)] (shC, I, L, pX pa pb pu pw) K = K (some (.int (nI (txB m i)))) (shC, I, L, pX pa pb pu pw) := fun i hi K => jgo_some (d := d + 2) rfl (tb1_c hI hi)
  have lt : ∀ i K, jgo jTT jMM (d + 3) 5 [.int (nI (txB m i))] (shC, I, L, pX pa pb pu pw) K = K (some (.int (if isL (txB m i) then 1 else 0))) (shC, I, L, pX pa pb pu pw) := fun i K => jgo_some (d := d + 2) rfl (let_c (txB_eq m i).2)
  have dg : ∀ i K, jgo jTT jMM (d + 3) 6 [.int (nI (txB m i))] (shC, I, L, pX pa pb pu pw) K = K (some (.int (if isD (txB m i) then 1 else 0))) (shC, I, L, pX pa pb pu pw) := fun i K => jgo_some (d := d + 2) rfl (dig_c (txB_eq m i).2)
  have w0 : isD (txB m at') := hw 0 h1
  rw [B4_0_m1, tb _ (by omega)]
  dsimp only [Option.toList_some, List.cons_append, List.nil_append]
  rw [B4_5_m1, lt, if_neg (show ¬ isL (txB m at') by unfold isL; unfold isD at w0; omega)]
  dsimp only [Option.toList_some, List.cons_append, List.nil_append]
  rw [B4_12_m1, dg, if_pos w0]
  dsimp only [Option.toList_some, List.cons_append, List.nil_append]
  rw [B4_19_m1, if_pos rfl, if_neg (by decide), B4_41_m1, if_pos rfl, B4_53_m1]
  have key := j_run (fun i => jv (d + 3) 4 61 [some (.ref 27), some (.ref 1), some (.int (nI at')), some (.int (nI n)), some (.int (nI (txB m at'))), some (.int 0), some (.int 1), some (.int (nI i)), some (.int 48), some (.long (vN m at' i)), none, some (.int (nI (at' + i)))] [] (shC, I, L, pX pa pb pu pw)) l (fun i hi => by
    show jv (d + 3) 4 61 _ _ _ = jv (d + 3) 4 61 _ _ _
    rw [B4_61_m1, if_pos (nI_lt (by omega) (by omega)), if_pos rfl, tb _ (by omega)]
    dsimp only [Option.toList_some, List.cons_append, List.nil_append]
    rw [B4_93_m1, dg, if_pos (hw i hi)]
    dsimp only [Option.toList_some, List.cons_append, List.nil_append]
    rw [B4_96_m1, if_neg (by decide), B4_99_m1, if_pos rfl, tb _ (by omega)]
    dsimp only [Option.toList_some, List.cons_append, List.nil_append]
    rw [B4_139_m1, B4_145_m1, show nI i + 1 = nI (i + 1) from nI_add i 1, show nI (at' + i) + 1 = nI (at' + (i + 1)) from nI_add _ 1]
    rfl)
  refine Eq.trans key ?_
  show jv (d + 3) 4 61 _ _ _ = _
  have en : jv (d + 3) 4 61 [some (.ref 27), some (.ref 1), some (.int (nI at')), some (.int (nI n)), some (.int (nI (txB m at'))), some (.int 0), some (.int 1), some (.int (nI l)), some (.int 48), some (.long (vN m at' l)), none, some (.int (nI (at' + l)))] [] (shC, I, L, pX pa pb pu pw) = jv (d + 3) 4 156 [some (.ref 27), some (.ref 1), some (.int (nI at')), some (.int (nI n)), some (.int (nI (txB m at'))), some (.int 0), some (.int 1), some (.int (nI l)), some (.int 48), some (.long (vN m at' l)), none, some (.int (nI (at' + l)))] [] (shC, I, L, pX pa pb pu pw) := by
    rw [B4_61_m1]
    by_cases q : at' + l < n
    · rw [if_pos (nI_lt q (by omega)), if_pos rfl, tb _ (by omega)]
      dsimp only [Option.toList_some, List.cons_append, List.nil_append]
      rw [B4_93_m1, dg, if_neg (he.resolve_left (by omega))]
      dsimp only [Option.toList_some, List.cons_append, List.nil_append]
      rw [B4_96_m1, if_pos rfl]
    · rw [if_neg (nI_nlt (by omega) (by omega))]
  rw [en, B4_156_m1]
  exact tokn_c1 (kd := 48) hT ht (by omega)
/-- token() at a sign -/
theorem tokS_c1 (hI : ∀ q, q < 1189 → I 2 q = m q) {at' n T : Nat} (hT : I 27 6 = nI T) (ht : T < 1201) (hn : n ≤ 1200) (hl : at' < n) (h1 : ¬ isL (txB m at')) (h2 : ¬ isD (txB m at')) : jv (d + 3) 4 0 [some (.ref 27), some (.ref 1), some (.int (nI at')), some (.int (nI n)), none, none, none, none, none, none, none, none] [] (shC, I, L, pX pa pb pu pw) = some (some (.int (nI (sgN m n at'))), if txB m at' ∈ sgL then (shC, tkI I T (sgK m n at') at', j_up L 30 T 0, pX pa pb pu pw) else (shC, j_up (j_up I 27 0 1) 27 1 (nI at'), L, pX pa pb pu pw)) := by
  have tb : ∀ i, i < 1200 → ∀ K, jgo jTT jMM (d + 3) 53 [.ref 1, .int (nI i)] (shC, I, L, pX pa pb pu pw) K = K (some (.int (nI (txB m i)))) (shC, I, L, pX pa pb pu pw) := fun i hi K => jgo_some (d := d + 2) rfl (tb1_c hI hi)
  have lt : ∀ i K, jgo jTT jMM (d + 3) 5 [.int (nI (txB m i))] (shC, I, L, pX pa pb pu pw) K = K (some (.int (if isL (txB m i) then 1 else 0))) (shC, I, L, pX pa pb pu pw) := fun i K => jgo_some (d := d + 2) rfl (let_c (txB_eq m i).2)
  have dg : ∀ i K, jgo jTT jMM (d + 3) 6 [.int (nI (txB m i))] (shC, I, L, pX pa pb pu pw) K = K (some (.int (if isD (txB m i) then 1 else 0))) (shC, I, L, pX pa pb pu pw) := fun i K => jgo_some (d := d + 2) rfl (dig_c (txB_eq m i).2)
  have hb := (txB_eq m at').2
  have e1 : ∀ k, k < 256 → (nI (txB m at') = nI k ↔ txB m at' = k) := fun k hk => nI_eq (by omega) (by omega)
  have e2 : ∀ k, k < 256 → (nI (txB m (at' + 1)) = nI k ↔ txB m (at' + 1) = k) := fun k hk => nI_eq (by have := (txB_eq m (at' + 1)).2; omega) (by omega)
  rw [B4_0_m1, tb _ (by omega)]
  dsimp only [Option.toList_some, List.cons_append, List.nil_append]
  rw [B4_5_m1, lt, if_neg h1]
  dsimp only [Option.toList_some, List.cons_append, List.nil_append]
  rw [B4_12_m1, dg, if_neg h2]
  dsimp only [Option.toList_some, List.cons_append, List.nil_append]
  rw [B4_19_m1, if_pos rfl, if_pos rfl]
  have no : ¬ (txB m at' = 60 ∨ txB m at' = 62) ∨ ¬ (at' + 1 < n ∧ txB m (at' + 1) = 61) → sgN m n at' = 1 ∧ sgK m n at' = txB m at' := fun z => by
    unfold sgN sgK
    rw [if_neg (by omega), if_neg (by omega)]
    exact ⟨rfl, rfl⟩
  have hi : (txB m at' = 60 ∨ txB m at' = 62) → jv (d + 3) 4 173 [some (.ref 27), some (.ref 1), some (.int (nI at')), some (.int (nI n)), some (.int (nI (txB m at'))), some (.int 0), some (.int 0), some (.int 1), some (.int (nI (txB m at'))), some (.long 0), none, none] [] (shC, I, L, pX pa pb pu pw) = some (some (.int (nI (sgN m n at'))), if txB m at' ∈ sgL then (shC, tkI I T (sgK m n at') at', j_up L 30 T 0, pX pa pb pu pw) else (shC, j_up (j_up I 27 0 1) 27 1 (nI at'), L, pX pa pb pu pw)) := fun z => by
    rw [B4_173_m1, show nI at' + 1 = nI (at' + 1) from nI_add at' 1]
    by_cases q : at' + 1 < n
    · rw [if_pos (nI_lt q (by omega)), tb _ (by omega)]
      dsimp only [Option.toList_some, List.cons_append, List.nil_append]
      rw [B4_187_m1]
      by_cases q2 : txB m (at' + 1) = 61
      · rw [if_pos (show nI (txB m (at' + 1)) = 61 from (e2 61 (by decide)).mpr q2)]
        have n2 : sgN m n at' = 2 := by unfold sgN; rw [if_pos ⟨z, q, q2⟩]
        rcases z with z | z
        · have n3 : sgK m n at' = 108 := by unfold sgK; rw [if_pos ⟨Or.inl z, q, q2⟩, if_pos z]
          rw [if_pos (show nI (txB m at') = 60 from (e1 60 (by decide)).mpr z), B4_206_m1, n2, n3]
          exact toks_c1 (l := 2) (kd := 108) hT ht hb
        · have n3 : sgK m n at' = 103 := by unfold sgK; rw [if_pos ⟨Or.inr z, q, q2⟩, if_neg (by omega)]
          rw [if_neg (show ¬ nI (txB m at') = 60 from fun y => by have := (e1 60 (by decide)).mp y; omega), B4_206_m1, n2, n3]
          exact toks_c1 (l := 2) (kd := 103) hT ht hb
      · rw [if_neg (show ¬ nI (txB m (at' + 1)) = 61 from fun y => q2 ((e2 61 (by decide)).mp y)), (no (Or.inr (fun y => q2 y.2))).1, (no (Or.inr (fun y => q2 y.2))).2]
        exact toks_c1 (l := 1) hT ht hb
    · rw [if_neg (nI_nlt (by omega) (by omega)), (no (Or.inr (fun y => q y.1))).1, (no (Or.inr (fun y => q y.1))).2]
      exact toks_c1 (l := 1) hT ht hb
  by_cases q1 : txB m at' = 60
  · rw [if_pos (show nI (txB m at') = 60 from (e1 60 (by decide)).mpr q1)]
    exact hi (Or.inl q1)
  rw [if_neg (show ¬ nI (txB m at') = 60 from fun y => q1 ((e1 60 (by decide)).mp y))]
  by_cases q2 : txB m at' = 62
  · rw [if_pos (show nI (txB m at') = 62 from (e1 62 (by decide)).mpr q2)]
    exact hi (Or.inr q2)
  rw [if_neg (show ¬ nI (txB m at') = 62 from fun y => q2 ((e1 62 (by decide)).mp y)), (no (Or.inl (by omega))).1, (no (Or.inl (by omega))).2]
  exact toks_c1 (l := 1) hT ht hb
/-- what the class writes behind the bytes of a token -/
theorem tokw_c3 {at' n T l kd : Nat} {v : Int64} {b : Int32} {o11 : Option Value} (hT : I 27 6 = nI T) (ht : T < 1201) (hl : l ≤ 1200) : jv d 4 211 [some (.ref 27), some (.ref 3), some (.int (nI at')), some (.int (nI n)), some (.int b), some (.int 1), some (.int 0), some (.int (nI l)), some (.int (nI kd)), some (.long v), none, o11] [] (shC, I, L, pX pa pb pu pw) = some (some (.int (nI l)), if 8 < l then (shC, j_up (j_up I 27 0 1) 27 1 (nI at'), L, pX pa pb pu pw) else (shC, tkI I T kd at', j_up L 30 T v, pX pa pb pu pw)) := by
  have c1 : (nI T).toNatClampNeg = T := nI_clamp (by omega)
  have g : ∀ (F : Nat → Nat → Int32) c k v, c ≠ 27 → j_up F c k v 27 6 = F 27 6 := fun F c k v h => by rw [j_up_cell F (Ne.symm h)]
  have g1 : j_up I 28 T (nI kd) 27 6 = nI T := by rw [g _ _ _ _ (by decide), hT]
  have g2 : j_up (j_up I 28 T (nI kd)) 29 T (nI at') 27 6 = nI T := by rw [g _ _ _ _ (by decide), g1]
  rw [B4_211_m3, if_neg (by decide), B4_225_m3, B4_226_m3, if_pos rfl, B4_244_m3, if_neg (by decide)]
  by_cases q : 8 < l
  · rw [if_pos (show (8 : Int32) < nI l from nI_lt (a := 8) q (by omega)), B4_268_m3, if_pos q]
  · rw [if_neg (show ¬ (8 : Int32) < nI l from nI_nlt (a := 8) (by omega) (by decide)), B4_256_m3, if_pos rfl, B4_281_m3, if_neg q]
    simp only [hT, c1, g1, g2]
    rw [if_pos (j_in_nI ht (by decide)), if_pos (j_in_nI ht (by decide)), if_pos (j_in_nI ht (by decide)), show nI T + 1 = nI (T + 1) from nI_add T 1]
    rfl
theorem tokn_c3 {at' n T l kd : Nat} {v : Int64} {b : Int32} {o11 : Option Value} (hT : I 27 6 = nI T) (ht : T < 1201) (hl : l ≤ 1200) : jv d 4 211 [some (.ref 27), some (.ref 3), some (.int (nI at')), some (.int (nI n)), some (.int b), some (.int 0), some (.int 1), some (.int (nI l)), some (.int (nI kd)), some (.long v), none, o11] [] (shC, I, L, pX pa pb pu pw) = some (some (.int (nI l)), if 9 < l then (shC, j_up (j_up I 27 0 1) 27 1 (nI at'), L, pX pa pb pu pw) else (shC, tkI I T kd at', j_up L 30 T v, pX pa pb pu pw)) := by
  have c1 : (nI T).toNatClampNeg = T := nI_clamp (by omega)
  have g : ∀ (F : Nat → Nat → Int32) c k v, c ≠ 27 → j_up F c k v 27 6 = F 27 6 := fun F c k v h => by rw [j_up_cell F (Ne.symm h)]
  have g1 : j_up I 28 T (nI kd) 27 6 = nI T := by rw [g _ _ _ _ (by decide), hT]
  have g2 : j_up (j_up I 28 T (nI kd)) 29 T (nI at') 27 6 = nI T := by rw [g _ _ _ _ (by decide), g1]
  rw [B4_211_m3, if_pos rfl, if_neg (by decide), B4_225_m3, B4_226_m3, if_pos rfl, B4_244_m3, if_pos rfl, B4_256_m3, if_neg (by decide)]
  by_cases q : 9 < l
  · rw [if_pos (show (9 : Int32) < nI l from nI_lt (a := 9) q (by omega)), B4_268_m3, if_pos q]
  · rw [if_neg (show ¬ (9 : Int32) < nI l from nI_nlt (a := 9) (by omega) (by decide)), B4_281_m3, if_neg q]
    simp only [hT, c1, g1, g2]
    rw [if_pos (j_in_nI ht (by decide)), if_pos (j_in_nI ht (by decide)), if_pos (j_in_nI ht (by decide)), show nI T + 1 = nI (T + 1) from nI_add T 1]
    rfl
theorem toks_c3 {at' n T l kd b : Nat} {v : Int64} {o11 : Option Value} (hT : I 27 6 = nI T) (ht : T < 1201) (hb : b < 256) : jv d 4 211 [some (.ref 27), some (.ref 3), some (.int (nI at')), some (.int (nI n)), some (.int (nI b)), some (.int 0), some (.int 0), some (.int (nI l)), some (.int (nI kd)), some (.long v), none, o11] [] (shC, I, L, pX pa pb pu pw) = some (some (.int (nI l)), if b ∈ sgL then (shC, tkI I T kd at', j_up L 30 T v, pX pa pb pu pw) else (shC, j_up (j_up I 27 0 1) 27 1 (nI at'), L, pX pa pb pu pw)) := by
  have c1 : (nI T).toNatClampNeg = T := nI_clamp (by omega)
  have g : ∀ (F : Nat → Nat → Int32) c k v, c ≠ 27 → j_up F c k v 27 6 = F 27 6 := fun F c k v h => by rw [j_up_cell F (Ne.symm h)]
  have g1 : j_up I 28 T (nI kd) 27 6 = nI T := by rw [g _ _ _ _ (by decide), hT]
  have g2 : j_up (j_up I 28 T (nI kd)) 29 T (nI at') 27 6 = nI T := by rw [g _ _ _ _ (by decide), g1]
  rw [B4_211_m3, if_pos rfl, if_pos rfl, B4_226_m3, if_neg (by decide)]
  by_cases q : b ∈ sgL
  · rw [if_neg (fun z => (sg_c b hb).mp z q), B4_244_m3, if_pos rfl, B4_256_m3, if_pos rfl, B4_281_m3, if_pos q]
    simp only [hT, c1, g1, g2]
    rw [if_pos (j_in_nI ht (by decide)), if_pos (j_in_nI ht (by decide)), if_pos (j_in_nI ht (by decide)), show nI T + 1 = nI (T + 1) from nI_add T 1]
    rfl
  · rw [if_pos ((sg_c b hb).mpr q), B4_268_m3, if_neg q]
/-- token() at a word -/
theorem tokW_c3 (hI : ∀ q, q < 1189 → I 4 q = m q) {at' n T l : Nat} (hT : I 27 6 = nI T) (ht : T < 1201) (hn : n ≤ 1200) (hl : at' + l ≤ n) (h1 : 1 ≤ l) (hw : ∀ j, j < l → isL (txB m (at' + j))) (he : at' + l = n ∨ ¬ isL (txB m (at' + l))) : jv (d + 3) 4 0 [some (.ref 27), some (.ref 3), some (.int (nI at')), some (.int (nI n)), none, none, none, none, none, none, none, none] [] (shC, I, L, pX pa pb pu pw) = some (some (.int (nI l)), if 8 < l then (shC, j_up (j_up I 27 0 1) 27 1 (nI at'), L, pX pa pb pu pw) else (shC, tkI I T 97 at', j_up L 30 T (vC m at' l), pX pa pb pu pw)) := by
  have tb : ∀ i, i < 1200 → ∀ K, jgo jTT jMM (d + 3) 53 [.ref 3, .int (nI i)] (shC, I, L, pX pa pb pu pw) K = K (some (.int (nI (txB m i)))) (shC, I, L, pX pa pb pu pw) := fun i hi K => jgo_some (d := d + 2) rfl (tb3_c hI hi)
  have lt : ∀ i K, jgo jTT jMM (d + 3) 5 [.int (nI (txB m i))] (shC, I, L, pX pa pb pu pw) K = K (some (.int (if isL (txB m i) then 1 else 0))) (shC, I, L, pX pa pb pu pw) := fun i K => jgo_some (d := d + 2) rfl (let_c (txB_eq m i).2)
  have dg : ∀ i K, jgo jTT jMM (d + 3) 6 [.int (nI (txB m i))] (shC, I, L, pX pa pb pu pw) K = K (some (.int (if isD (txB m i) then 1 else 0))) (shC, I, L, pX pa pb pu pw) := fun i K => jgo_some (d := d + 2) rfl (dig_c (txB_eq m i).2)
  have w0 : isL (txB m at') := hw 0 h1
  rw [B4_0_m3, tb _ (by omega)]
  dsimp only [Option.toList_some, List.cons_append, List.nil_append]
  rw [B4_5_m3, lt, if_pos w0]
  dsimp only [Option.toList_some, List.cons_append, List.nil_append]
  rw [B4_12_m3, dg, if_neg (show ¬ isD (txB m at') by unfold isD; unfold isL at w0; omega)]
  dsimp only [Option.toList_some, List.cons_append, List.nil_append]
  rw [B4_19_m3, if_neg (by decide), B4_41_m3, if_neg (by decide), B4_53_m3]
  have key := j_run (fun i => jv (d + 3) 4 61 [some (.ref 27), some (.ref 3), some (.int (nI at')), some (.int (nI n)), some (.int (nI (txB m at'))), some (.int 1), some (.int 0), some (.int (nI i)), some (.int 97), some (.long (vC m at' i)), none, some (.int (nI (at' + i)))] [] (shC, I, L, pX pa pb pu pw)) l (fun i hi => by
    show jv (d + 3) 4 61 _ _ _ = jv (d + 3) 4 61 _ _ _
    rw [B4_61_m3, if_pos (nI_lt (by omega) (by omega)), if_neg (by decide), tb _ (by omega)]
    dsimp only [Option.toList_some, List.cons_append, List.nil_append]
    rw [B4_78_m3, lt, if_pos (hw i hi)]
    dsimp only [Option.toList_some, List.cons_append, List.nil_append]
    rw [B4_81_m3, if_neg (by decide), B4_99_m3, if_neg (by decide), tb _ (by omega)]
    dsimp only [Option.toList_some, List.cons_append, List.nil_append]
    rw [B4_116_m3, B4_145_m3, show nI i + 1 = nI (i + 1) from nI_add i 1, show nI (at' + i) + 1 = nI (at' + (i + 1)) from nI_add _ 1]
    rfl)
  refine Eq.trans key ?_
  show jv (d + 3) 4 61 _ _ _ = _
  have en : jv (d + 3) 4 61 [some (.ref 27), some (.ref 3), some (.int (nI at')), some (.int (nI n)), some (.int (nI (txB m at'))), some (.int 1), some (.int 0), some (.int (nI l)), some (.int 97), some (.long (vC m at' l)), none, some (.int (nI (at' + l)))] [] (shC, I, L, pX pa pb pu pw) = jv (d + 3) 4 156 [some (.ref 27), some (.ref 3), some (.int (nI at')), some (.int (nI n)), some (.int (nI (txB m at'))), some (.int 1), some (.int 0), some (.int (nI l)), some (.int 97), some (.long (vC m at' l)), none, some (.int (nI (at' + l)))] [] (shC, I, L, pX pa pb pu pw) := by
    rw [B4_61_m3]
    by_cases q : at' + l < n
    · rw [if_pos (nI_lt q (by omega)), if_neg (by decide), tb _ (by omega)]
      dsimp only [Option.toList_some, List.cons_append, List.nil_append]
      rw [B4_78_m3, lt, if_neg (he.resolve_left (by omega))]
      dsimp only [Option.toList_some, List.cons_append, List.nil_append]
      rw [B4_81_m3, if_pos rfl]
    · rw [if_neg (nI_nlt (by omega) (by omega))]
  rw [en, B4_156_m3]
  exact tokw_c3 (kd := 97) hT ht (by omega)
/-- token() at a number -/
theorem tokN_c3 (hI : ∀ q, q < 1189 → I 4 q = m q) {at' n T l : Nat} (hT : I 27 6 = nI T) (ht : T < 1201) (hn : n ≤ 1200) (hl : at' + l ≤ n) (h1 : 1 ≤ l) (hw : ∀ j, j < l → isD (txB m (at' + j))) (he : at' + l = n ∨ ¬ isD (txB m (at' + l))) : jv (d + 3) 4 0 [some (.ref 27), some (.ref 3), some (.int (nI at')), some (.int (nI n)), none, none, none, none, none, none, none, none] [] (shC, I, L, pX pa pb pu pw) = some (some (.int (nI l)), if 9 < l then (shC, j_up (j_up I 27 0 1) 27 1 (nI at'), L, pX pa pb pu pw) else (shC, tkI I T 48 at', j_up L 30 T (vN m at' l), pX pa pb pu pw)) := by
  have tb : ∀ i, i < 1200 → ∀ K, jgo jTT jMM (d + 3) 53 [.ref 3, .int (nI i)] (shC, I, L, pX pa pb pu pw) K = K (some (.int (nI (txB m i)))) (shC, I, L, pX pa pb pu pw) := fun i hi K => jgo_some (d := d + 2) rfl (tb3_c hI hi)
  have lt : ∀ i K, jgo jTT jMM (d + 3) 5 [.int (nI (txB m i))] (shC, I, L, pX pa pb pu pw) K = K (some (.int (if isL (txB m i) then 1 else 0))) (shC, I, L, pX pa pb pu pw) := fun i K => jgo_some (d := d + 2) rfl (let_c (txB_eq m i).2)
  have dg : ∀ i K, jgo jTT jMM (d + 3) 6 [.int (nI (txB m i))] (shC, I, L, pX pa pb pu pw) K = K (some (.int (if isD (txB m i) then 1 else 0))) (shC, I, L, pX pa pb pu pw) := fun i K => jgo_some (d := d + 2) rfl (dig_c (txB_eq m i).2)
  have w0 : isD (txB m at') := hw 0 h1
  rw [B4_0_m3, tb _ (by omega)]
  dsimp only [Option.toList_some, List.cons_append, List.nil_append]
  rw [B4_5_m3, lt, if_neg (show ¬ isL (txB m at') by unfold isL; unfold isD at w0; omega)]
  dsimp only [Option.toList_some, List.cons_append, List.nil_append]
  rw [B4_12_m3, dg, if_pos w0]
  dsimp only [Option.toList_some, List.cons_append, List.nil_append]
  rw [B4_19_m3, if_pos rfl, if_neg (by decide), B4_41_m3, if_pos rfl, B4_53_m3]
  have key := j_run (fun i => jv (d + 3) 4 61 [some (.ref 27), some (.ref 3), some (.int (nI at')), some (.int (nI n)), some (.int (nI (txB m at'))), some (.int 0), some (.int 1), some (.int (nI i)), some (.int 48), some (.long (vN m at' i)), none, some (.int (nI (at' + i)))] [] (shC, I, L, pX pa pb pu pw)) l (fun i hi => by
    show jv (d + 3) 4 61 _ _ _ = jv (d + 3) 4 61 _ _ _
    rw [B4_61_m3, if_pos (nI_lt (by omega) (by omega)), if_pos rfl, tb _ (by omega)]
    dsimp only [Option.toList_some, List.cons_append, List.nil_append]
    rw [B4_93_m3, dg, if_pos (hw i hi)]
    dsimp only [Option.toList_some, List.cons_append, List.nil_append]
    rw [B4_96_m3, if_neg (by decide), B4_99_m3, if_pos rfl, tb _ (by omega)]
    dsimp only [Option.toList_some, List.cons_append, List.nil_append]
    rw [B4_139_m3, B4_145_m3, show nI i + 1 = nI (i + 1) from nI_add i 1, show nI (at' + i) + 1 = nI (at' + (i + 1)) from nI_add _ 1]
    rfl)
  refine Eq.trans key ?_
  show jv (d + 3) 4 61 _ _ _ = _
  have en : jv (d + 3) 4 61 [some (.ref 27), some (.ref 3), some (.int (nI at')), some (.int (nI n)), some (.int (nI (txB m at'))), some (.int 0), some (.int 1), some (.int (nI l)), some (.int 48), some (.long (vN m at' l)), none, some (.int (nI (at' + l)))] [] (shC, I, L, pX pa pb pu pw) = jv (d + 3) 4 156 [some (.ref 27), some (.ref 3), some (.int (nI at')), some (.int (nI n)), some (.int (nI (txB m at'))), some (.int 0), some (.int 1), some (.int (nI l)), some (.int 48), some (.long (vN m at' l)), none, some (.int (nI (at' + l)))] [] (shC, I, L, pX pa pb pu pw) := by
    rw [B4_61_m3]
    by_cases q : at' + l < n
    · rw [if_pos (nI_lt q (by omega)), if_pos rfl, tb _ (by omega)]
      dsimp only [Option.toList_some, List.cons_append, List.nil_append]
      rw [B4_93_m3, dg, if_neg (he.resolve_left (by omega))]
      dsimp only [Option.toList_some, List.cons_append, List.nil_append]
      rw [B4_96_m3, if_pos rfl]
    · rw [if_neg (nI_nlt (by omega) (by omega))]
  rw [en, B4_156_m3]
  exact tokn_c3 (kd := 48) hT ht (by omega)
/-- token() at a sign -/
theorem tokS_c3 (hI : ∀ q, q < 1189 → I 4 q = m q) {at' n T : Nat} (hT : I 27 6 = nI T) (ht : T < 1201) (hn : n ≤ 1200) (hl : at' < n) (h1 : ¬ isL (txB m at')) (h2 : ¬ isD (txB m at')) : jv (d + 3) 4 0 [some (.ref 27), some (.ref 3), some (.int (nI at')), some (.int (nI n)), none, none, none, none, none, none, none, none] [] (shC, I, L, pX pa pb pu pw) = some (some (.int (nI (sgN m n at'))), if txB m at' ∈ sgL then (shC, tkI I T (sgK m n at') at', j_up L 30 T 0, pX pa pb pu pw) else (shC, j_up (j_up I 27 0 1) 27 1 (nI at'), L, pX pa pb pu pw)) := by
  have tb : ∀ i, i < 1200 → ∀ K, jgo jTT jMM (d + 3) 53 [.ref 3, .int (nI i)] (shC, I, L, pX pa pb pu pw) K = K (some (.int (nI (txB m i)))) (shC, I, L, pX pa pb pu pw) := fun i hi K => jgo_some (d := d + 2) rfl (tb3_c hI hi)
  have lt : ∀ i K, jgo jTT jMM (d + 3) 5 [.int (nI (txB m i))] (shC, I, L, pX pa pb pu pw) K = K (some (.int (if isL (txB m i) then 1 else 0))) (shC, I, L, pX pa pb pu pw) := fun i K => jgo_some (d := d + 2) rfl (let_c (txB_eq m i).2)
  have dg : ∀ i K, jgo jTT jMM (d + 3) 6 [.int (nI (txB m i))] (shC, I, L, pX pa pb pu pw) K = K (some (.int (if isD (txB m i) then 1 else 0))) (shC, I, L, pX pa pb pu pw) := fun i K => jgo_some (d := d + 2) rfl (dig_c (txB_eq m i).2)
  have hb := (txB_eq m at').2
  have e1 : ∀ k, k < 256 → (nI (txB m at') = nI k ↔ txB m at' = k) := fun k hk => nI_eq (by omega) (by omega)
  have e2 : ∀ k, k < 256 → (nI (txB m (at' + 1)) = nI k ↔ txB m (at' + 1) = k) := fun k hk => nI_eq (by have := (txB_eq m (at' + 1)).2; omega) (by omega)
  rw [B4_0_m3, tb _ (by omega)]
  dsimp only [Option.toList_some, List.cons_append, List.nil_append]
  rw [B4_5_m3, lt, if_neg h1]
  dsimp only [Option.toList_some, List.cons_append, List.nil_append]
  rw [B4_12_m3, dg, if_neg h2]
  dsimp only [Option.toList_some, List.cons_append, List.nil_append]
  rw [B4_19_m3, if_pos rfl, if_pos rfl]
  have no : ¬ (txB m at' = 60 ∨ txB m at' = 62) ∨ ¬ (at' + 1 < n ∧ txB m (at' + 1) = 61) → sgN m n at' = 1 ∧ sgK m n at' = txB m at' := fun z => by
    unfold sgN sgK
    rw [if_neg (by omega), if_neg (by omega)]
    exact ⟨rfl, rfl⟩
  have hi : (txB m at' = 60 ∨ txB m at' = 62) → jv (d + 3) 4 173 [some (.ref 27), some (.ref 3), some (.int (nI at')), some (.int (nI n)), some (.int (nI (txB m at'))), some (.int 0), some (.int 0), some (.int 1), some (.int (nI (txB m at'))), some (.long 0), none, none] [] (shC, I, L, pX pa pb pu pw) = some (some (.int (nI (sgN m n at'))), if txB m at' ∈ sgL then (shC, tkI I T (sgK m n at') at', j_up L 30 T 0, pX pa pb pu pw) else (shC, j_up (j_up I 27 0 1) 27 1 (nI at'), L, pX pa pb pu pw)) := fun z => by
    rw [B4_173_m3, show nI at' + 1 = nI (at' + 1) from nI_add at' 1]
    by_cases q : at' + 1 < n
    · rw [if_pos (nI_lt q (by omega)), tb _ (by omega)]
      dsimp only [Option.toList_some, List.cons_append, List.nil_append]
      rw [B4_187_m3]
      by_cases q2 : txB m (at' + 1) = 61
      · rw [if_pos (show nI (txB m (at' + 1)) = 61 from (e2 61 (by decide)).mpr q2)]
        have n2 : sgN m n at' = 2 := by unfold sgN; rw [if_pos ⟨z, q, q2⟩]
        rcases z with z | z
        · have n3 : sgK m n at' = 108 := by unfold sgK; rw [if_pos ⟨Or.inl z, q, q2⟩, if_pos z]
          rw [if_pos (show nI (txB m at') = 60 from (e1 60 (by decide)).mpr z), B4_206_m3, n2, n3]
          exact toks_c3 (l := 2) (kd := 108) hT ht hb
        · have n3 : sgK m n at' = 103 := by unfold sgK; rw [if_pos ⟨Or.inr z, q, q2⟩, if_neg (by omega)]
          rw [if_neg (show ¬ nI (txB m at') = 60 from fun y => by have := (e1 60 (by decide)).mp y; omega), B4_206_m3, n2, n3]
          exact toks_c3 (l := 2) (kd := 103) hT ht hb
      · rw [if_neg (show ¬ nI (txB m (at' + 1)) = 61 from fun y => q2 ((e2 61 (by decide)).mp y)), (no (Or.inr (fun y => q2 y.2))).1, (no (Or.inr (fun y => q2 y.2))).2]
        exact toks_c3 (l := 1) hT ht hb
    · rw [if_neg (nI_nlt (by omega) (by omega)), (no (Or.inr (fun y => q y.1))).1, (no (Or.inr (fun y => q y.1))).2]
      exact toks_c3 (l := 1) hT ht hb
  by_cases q1 : txB m at' = 60
  · rw [if_pos (show nI (txB m at') = 60 from (e1 60 (by decide)).mpr q1)]
    exact hi (Or.inl q1)
  rw [if_neg (show ¬ nI (txB m at') = 60 from fun y => q1 ((e1 60 (by decide)).mp y))]
  by_cases q2 : txB m at' = 62
  · rw [if_pos (show nI (txB m at') = 62 from (e1 62 (by decide)).mpr q2)]
    exact hi (Or.inr q2)
  rw [if_neg (show ¬ nI (txB m at') = 62 from fun y => q2 ((e1 62 (by decide)).mp y)), (no (Or.inl (by omega))).1, (no (Or.inl (by omega))).2]
  exact toks_c3 (l := 1) hT ht hb
end TOKB
