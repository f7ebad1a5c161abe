/-! RULES: the reference's tokens, one turn -/
section TOKC
variable {d e : Nat} {I J : Nat → Nat → Int32} {L L' : Nat → Nat → Int64} {pa pb pu pw : Option Nat} {m : Nat → Int32}
def kR (k : Nat) : Nat := if k = 97 then 1 else if k = 48 then 2 else if k = 108 then 3 else if k = 103 then 4 else k
theorem rW6 (hJ : ∀ q, q < 1189 → J 6 q = m q) (hr : rCst J) (h0 : J 0 29 = 0) {at' n T l : Nat} (hT : J 0 27 = nI T) (ht : T < 1202) (hn : n ≤ 1200) (hl : at' + l ≤ n) (h1 : 1 ≤ l) (hw : ∀ j, j < l → isL (txB m (at' + j))) (he : at' + l = n ∨ ¬ isL (txB m (at' + l))) (o4 o5 o6 o7 o8 : Option Value) : (8 < l → jv (e + 1) 256 17 [some (.ref 0), some (.ref 6), some (.int (nI n)), some (.int (nI at')), o4, o5, o6, o7, o8] [] (shR, J, L', pR) = some (some (.int 0), (shR, j_up (j_up J 0 29 1) 0 30 (nI at'), L', pR))) ∧ (l ≤ 8 → ∃ p4 p5 p6 p7 p8, jv (e + 1) 256 17 [some (.ref 0), some (.ref 6), some (.int (nI n)), some (.int (nI at')), o4, o5, o6, o7, o8] [] (shR, J, L', pR) = jv (e + 1) 256 17 [some (.ref 0), some (.ref 6), some (.int (nI n)), some (.int (nI (at' + l))), p4, p5, p6, p7, p8] [] (shR, tkJ J T 1 at', j_up L' 20 T (vR m at' l), pR)) := by
  have tb : ∀ i, i < 1200 → ∀ K, jgo jTT jMM (e + 1) 252 [.ref 0, .ref 6, .int (nI i)] (shR, J, L', pR) K = K (some (.int (nI (txB m i)))) (shR, J, L', pR) := fun i hi K => jgo_some (d := e) rfl (tb6_r hJ hr hi)
  have lt : ∀ i K, jgo jTT jMM (e + 1) 254 [.int (nI (txB m i))] (shR, J, L', pR) K = K (some (.int (if isL (txB m i) then 1 else 0))) (shR, J, L', pR) := fun i K => jgo_some (d := e) rfl (let_r (txB_eq m i).2)
  have dg : ∀ i K, jgo jTT jMM (e + 1) 255 [.int (nI (txB m i))] (shR, J, L', pR) K = K (some (.int (if isD (txB m i) then 1 else 0))) (shR, J, L', pR) := fun i K => jgo_some (d := e) rfl (dig_r (txB_eq m i).2)
  have fl : ∀ k p K, jgo jTT jMM (e + 1) 253 [.ref 0, .int k, .int p] (shR, J, L', pR) K = K (some (.int 0)) (shR, j_up (j_up J 0 29 k) 0 30 p, L', pR) := fun k p K => jgo_some (d := e) rfl (fails_r h0 k p)
  have tk : ∀ (kd p : Nat) v K, jgo jTT jMM (e + 1) 257 [.ref 0, .int (nI kd), .int (nI p), .long v] (shR, J, L', pR) K = K none (shR, tkJ J T kd p, j_up L' 20 T v, pR) := fun kd p v K => jgo_some (d := e) rfl (tok_r hT ht)
  have w0 : isL (txB m at') := hw 0 h1
  have hb := (txB_eq m at').2
  have key := j_run (fun i => jv (e + 1) 256 64 [some (.ref 0), some (.ref 6), some (.int (nI n)), some (.int (nI (at' + i))), some (.int (nI (txB m at'))), some (.int (nI at')), some (.long (vR m at' i)), none, o8] [] (shR, J, L', pR)) l (fun i hi => by
    show jv (e + 1) 256 64 _ _ _ = jv (e + 1) 256 64 _ _ _
    rw [B256_64_a6, if_pos (nI_lt (by omega) (by omega)), tb _ (by omega)]
    dsimp only [Option.toList_some, Option.toList_none, List.cons_append, List.nil_append]
    rw [B256_75_a6, lt, if_pos (hw i hi)]
    dsimp only [Option.toList_some, Option.toList_none, List.cons_append, List.nil_append]
    rw [B256_78_a6, if_neg (by decide), tb _ (by omega)]
    dsimp only [Option.toList_some, Option.toList_none, List.cons_append, List.nil_append]
    rw [B256_92_a6, show nI (at' + i) + 1 = nI (at' + (i + 1)) from nI_add _ 1]
    rfl)
  have en : jv (e + 1) 256 64 [some (.ref 0), some (.ref 6), some (.int (nI n)), some (.int (nI (at' + l))), some (.int (nI (txB m at'))), some (.int (nI at')), some (.long (vR m at' l)), none, o8] [] (shR, J, L', pR) = jv (e + 1) 256 102 [some (.ref 0), some (.ref 6), some (.int (nI n)), some (.int (nI (at' + l))), some (.int (nI (txB m at'))), some (.int (nI at')), some (.long (vR m at' l)), none, o8] [] (shR, J, L', pR) := by
    rw [B256_64_a6]
    by_cases q : at' + l < n
    · rw [if_pos (nI_lt q (by omega)), tb _ (by omega)]
      dsimp only [Option.toList_some, Option.toList_none, List.cons_append, List.nil_append]
      rw [B256_75_a6, lt, if_neg (he.resolve_left (by omega))]
      dsimp only [Option.toList_some, Option.toList_none, List.cons_append, List.nil_append]
      rw [B256_78_a6, if_pos rfl]
    · rw [if_neg (nI_nlt (by omega) (by omega))]
  have st : jv (e + 1) 256 17 [some (.ref 0), some (.ref 6), some (.int (nI n)), some (.int (nI at')), o4, o5, o6, o7, o8] [] (shR, J, L', pR) = jv (e + 1) 256 102 [some (.ref 0), some (.ref 6), some (.int (nI n)), some (.int (nI (at' + l))), some (.int (nI (txB m at'))), some (.int (nI at')), some (.long (vR m at' l)), none, o8] [] (shR, J, L', pR) := by
    rw [B256_17_a6, if_pos (nI_lt (by omega) (by omega)), tb _ (by omega)]
    dsimp only [Option.toList_some, Option.toList_none, List.cons_append, List.nil_append]
    rw [B256_28_a6, if_neg (show ¬ nI (txB m at') = 32 from fun z => by have := (nI_eq (b := 32) (by omega) (by decide)).mp z; unfold isL at w0; omega), if_neg (show ¬ nI (txB m at') = 10 from fun z => by have := (nI_eq (b := 10) (by omega) (by decide)).mp z; unfold isL at w0; omega), lt, if_pos w0]
    dsimp only [Option.toList_some, Option.toList_none, List.cons_append, List.nil_append]
    rw [B256_61_a6, if_neg (by decide)]
    exact Eq.trans key en
  have sub : nI (at' + l) - nI at' = nI l := by rw [nI_sub (by omega), Nat.add_sub_cancel_left]
  refine ⟨fun q => ?_, fun q => ⟨some (.int (nI (txB m at'))), some (.int (nI at')), some (.long (vR m at' l)), none, o8, ?_⟩⟩
  · rw [st, B256_102_a6, sub, if_pos (show (8 : Int32) < nI l from nI_lt (a := 8) q (by omega)), fl]
    dsimp only [Option.toList_some, Option.toList_none, List.cons_append, List.nil_append]
    rw [B256_118_a6, if_pos bl_0]
  · rw [st, B256_102_a6, sub, if_neg (show ¬ (8 : Int32) < nI l from nI_nlt (a := 8) (by omega) (by decide)), show (1 : Int32) = nI 1 from rfl, tk]
    dsimp only [Option.toList_some, Option.toList_none, List.cons_append, List.nil_append]
    rw [B256_128_a6, B256_327_a6]
theorem rN6 (hJ : ∀ q, q < 1189 → J 6 q = m q) (hr : rCst J) (h0 : J 0 29 = 0) {at' n T l : Nat} (hT : J 0 27 = nI T) (ht : T < 1202) (hn : n ≤ 1200) (hl : at' + l ≤ n) (h1 : 1 ≤ l) (hw : ∀ j, j < l → isD (txB m (at' + j))) (he : at' + l = n ∨ ¬ isD (txB m (at' + l))) (o4 o5 o6 o7 o8 : Option Value) : (9 < l → jv (e + 1) 256 17 [some (.ref 0), some (.ref 6), some (.int (nI n)), some (.int (nI at')), o4, o5, o6, o7, o8] [] (shR, J, L', pR) = some (some (.int 0), (shR, j_up (j_up J 0 29 1) 0 30 (nI at'), L', pR))) ∧ (l ≤ 9 → ∃ p4 p5 p6 p7 p8, jv (e + 1) 256 17 [some (.ref 0), some (.ref 6), some (.int (nI n)), some (.int (nI at')), o4, o5, o6, o7, o8] [] (shR, J, L', pR) = jv (e + 1) 256 17 [some (.ref 0), some (.ref 6), some (.int (nI n)), some (.int (nI (at' + l))), p4, p5, p6, p7, p8] [] (shR, tkJ J T 2 at', j_up L' 20 T (vN m at' l), pR)) := by
  have tb : ∀ i, i < 1200 → ∀ K, jgo jTT jMM (e + 1) 252 [.ref 0, .ref 6, .int (nI i)] (shR, J, L', pR) K = K (some (.int (nI (txB m i)))) (shR, J, L', pR) := fun i hi K => jgo_some (d := e) rfl (tb6_r hJ hr hi)
  have lt : ∀ i K, jgo jTT jMM (e + 1) 254 [.int (nI (txB m i))] (shR, J, L', pR) K = K (some (.int (if isL (txB m i) then 1 else 0))) (shR, J, L', pR) := fun i K => jgo_some (d := e) rfl (let_r (txB_eq m i).2)
  have dg : ∀ i K, jgo jTT jMM (e + 1) 255 [.int (nI (txB m i))] (shR, J, L', pR) K = K (some (.int (if isD (txB m i) then 1 else 0))) (shR, J, L', pR) := fun i K => jgo_some (d := e) rfl (dig_r (txB_eq m i).2)
  have fl : ∀ k p K, jgo jTT jMM (e + 1) 253 [.ref 0, .int k, .int p] (shR, J, L', pR) K = K (some (.int 0)) (shR, j_up (j_up J 0 29 k) 0 30 p, L', pR) := fun k p K => jgo_some (d := e) rfl (fails_r h0 k p)
  have tk : ∀ (kd p : Nat) v K, jgo jTT jMM (e + 1) 257 [.ref 0, .int (nI kd), .int (nI p), .long v] (shR, J, L', pR) K = K none (shR, tkJ J T kd p, j_up L' 20 T v, pR) := fun kd p v K => jgo_some (d := e) rfl (tok_r hT ht)
  have w0 : isD (txB m at') := hw 0 h1
  have hb := (txB_eq m at').2
  have key := j_run (fun i => jv (e + 1) 256 139 [some (.ref 0), some (.ref 6), some (.int (nI n)), some (.int (nI (at' + i))), some (.int (nI (txB m at'))), some (.int (nI at')), some (.long (vM m at' i)), none, o8] [] (shR, J, L', pR)) l (fun i hi => by
    show jv (e + 1) 256 139 _ _ _ = jv (e + 1) 256 139 _ _ _
    have sub : nI (at' + i) - nI at' = nI i := by rw [nI_sub (by omega), Nat.add_sub_cancel_left]
    rw [B256_139_a6, if_pos (nI_lt (by omega) (by omega)), tb _ (by omega)]
    dsimp only [Option.toList_some, Option.toList_none, List.cons_append, List.nil_append]
    rw [B256_150_a6, dg, if_pos (hw i hi)]
    dsimp only [Option.toList_some, Option.toList_none, List.cons_append, List.nil_append]
    rw [B256_153_a6, if_neg (by decide), sub]
    by_cases q : i < 9
    · rw [if_pos (show nI i < (9 : Int32) from nI_lt (b := 9) q (by decide)), tb _ (by omega)]
      dsimp only [Option.toList_some, Option.toList_none, List.cons_append, List.nil_append]
      rw [B256_177_a6, B256_188_a6, show nI (at' + i) + 1 = nI (at' + (i + 1)) from nI_add _ 1, show vM m at' (i + 1) = vM m at' i * 10 + (nI (txB m (at' + i))).toInt64 - 48 from if_pos q]
    · rw [if_neg (show ¬ nI i < (9 : Int32) from nI_nlt (b := 9) (by omega) (by omega)), B256_188_a6, show nI (at' + i) + 1 = nI (at' + (i + 1)) from nI_add _ 1, show vM m at' (i + 1) = vM m at' i from if_neg q])
  have en : jv (e + 1) 256 139 [some (.ref 0), some (.ref 6), some (.int (nI n)), some (.int (nI (at' + l))), some (.int (nI (txB m at'))), some (.int (nI at')), some (.long (vM m at' l)), none, o8] [] (shR, J, L', pR) = jv (e + 1) 256 196 [some (.ref 0), some (.ref 6), some (.int (nI n)), some (.int (nI (at' + l))), some (.int (nI (txB m at'))), some (.int (nI at')), some (.long (vM m at' l)), none, o8] [] (shR, J, L', pR) := by
    rw [B256_139_a6]
    by_cases q : at' + l < n
    · rw [if_pos (nI_lt q (by omega)), tb _ (by omega)]
      dsimp only [Option.toList_some, Option.toList_none, List.cons_append, List.nil_append]
      rw [B256_150_a6, dg, if_neg (he.resolve_left (by omega))]
      dsimp only [Option.toList_some, Option.toList_none, List.cons_append, List.nil_append]
      rw [B256_153_a6, if_pos rfl]
    · rw [if_neg (nI_nlt (by omega) (by omega))]
  have st : jv (e + 1) 256 17 [some (.ref 0), some (.ref 6), some (.int (nI n)), some (.int (nI at')), o4, o5, o6, o7, o8] [] (shR, J, L', pR) = jv (e + 1) 256 196 [some (.ref 0), some (.ref 6), some (.int (nI n)), some (.int (nI (at' + l))), some (.int (nI (txB m at'))), some (.int (nI at')), some (.long (vM m at' l)), none, o8] [] (shR, J, L', pR) := by
    rw [B256_17_a6, if_pos (nI_lt (by omega) (by omega)), tb _ (by omega)]
    dsimp only [Option.toList_some, Option.toList_none, List.cons_append, List.nil_append]
    rw [B256_28_a6, if_neg (show ¬ nI (txB m at') = 32 from fun z => by have := (nI_eq (b := 32) (by omega) (by decide)).mp z; unfold isD at w0; omega), if_neg (show ¬ nI (txB m at') = 10 from fun z => by have := (nI_eq (b := 10) (by omega) (by decide)).mp z; unfold isD at w0; omega), lt, if_neg (show ¬ isL (txB m at') by unfold isL; unfold isD at w0; omega)]
    dsimp only [Option.toList_some, Option.toList_none, List.cons_append, List.nil_append]
    rw [B256_61_a6, if_pos rfl, dg, if_pos w0]
    dsimp only [Option.toList_some, Option.toList_none, List.cons_append, List.nil_append]
    rw [B256_136_a6, if_neg (by decide)]
    exact Eq.trans key en
  have sub : nI (at' + l) - nI at' = nI l := by rw [nI_sub (by omega), Nat.add_sub_cancel_left]
  refine ⟨fun q => ?_, fun q => ⟨some (.int (nI (txB m at'))), some (.int (nI at')), some (.long (vN m at' l)), none, o8, ?_⟩⟩
  · rw [st, B256_196_a6, sub, if_pos (show (9 : Int32) < nI l from nI_lt (a := 9) q (by omega)), fl]
    dsimp only [Option.toList_some, Option.toList_none, List.cons_append, List.nil_append]
    rw [B256_212_a6, if_pos bl_0]
  · rw [st, B256_196_a6, sub, if_neg (show ¬ (9 : Int32) < nI l from nI_nlt (a := 9) (by omega) (by decide)), show (2 : Int32) = nI 2 from rfl, tk, vM_eq _ _ q]
    dsimp only [Option.toList_some, Option.toList_none, List.cons_append, List.nil_append]
    rw [B256_222_a6, B256_327_a6]
theorem rS6 (hJ : ∀ q, q < 1189 → J 6 q = m q) (hr : rCst J) (h0 : J 0 29 = 0) {at' n T : Nat} (hT : J 0 27 = nI T) (ht : T < 1202) (hn : n ≤ 1200) (hl : at' < n) (h1 : ¬ isL (txB m at')) (h2 : ¬ isD (txB m at')) (h3 : txB m at' ≠ 32) (h4 : txB m at' ≠ 10) (o4 o5 o6 o7 o8 : Option Value) : (¬ txB m at' ∈ sgL → jv (e + 1) 256 17 [some (.ref 0), some (.ref 6), some (.int (nI n)), some (.int (nI at')), o4, o5, o6, o7, o8] [] (shR, J, L', pR) = some (some (.int 0), (shR, j_up (j_up J 0 29 1) 0 30 (nI at'), L', pR))) ∧ (txB m at' ∈ sgL → ∃ p4 p5 p6 p7 p8, jv (e + 1) 256 17 [some (.ref 0), some (.ref 6), some (.int (nI n)), some (.int (nI at')), o4, o5, o6, o7, o8] [] (shR, J, L', pR) = jv (e + 1) 256 17 [some (.ref 0), some (.ref 6), some (.int (nI n)), some (.int (nI (at' + sgN m n at'))), p4, p5, p6, p7, p8] [] (shR, tkJ J T (kR (sgK m n at')) at', j_up L' 20 T 0, pR)) := by
  have tb : ∀ i, i < 1200 → ∀ K, jgo jTT jMM (e + 1) 252 [.ref 0, .ref 6, .int (nI i)] (shR, J, L', pR) K = K (some (.int (nI (txB m i)))) (shR, J, L', pR) := fun i hi K => jgo_some (d := e) rfl (tb6_r hJ hr hi)
  have lt : ∀ i K, jgo jTT jMM (e + 1) 254 [.int (nI (txB m i))] (shR, J, L', pR) K = K (some (.int (if isL (txB m i) then 1 else 0))) (shR, J, L', pR) := fun i K => jgo_some (d := e) rfl (let_r (txB_eq m i).2)
  have dg : ∀ i K, jgo jTT jMM (e + 1) 255 [.int (nI (txB m i))] (shR, J, L', pR) K = K (some (.int (if isD (txB m i) then 1 else 0))) (shR, J, L', pR) := fun i K => jgo_some (d := e) rfl (dig_r (txB_eq m i).2)
  have fl : ∀ k p K, jgo jTT jMM (e + 1) 253 [.ref 0, .int k, .int p] (shR, J, L', pR) K = K (some (.int 0)) (shR, j_up (j_up J 0 29 k) 0 30 p, L', pR) := fun k p K => jgo_some (d := e) rfl (fails_r h0 k p)
  have tk : ∀ (kd p : Nat) v K, jgo jTT jMM (e + 1) 257 [.ref 0, .int (nI kd), .int (nI p), .long v] (shR, J, L', pR) K = K none (shR, tkJ J T kd p, j_up L' 20 T v, pR) := fun kd p v K => jgo_some (d := e) rfl (tok_r hT ht)
  have hb := (txB_eq m at').2
  have e1 : ∀ k, k < 256 → (nI (txB m at') = nI k ↔ txB m at' = k) := fun k hk => nI_eq (by omega) (by omega)
  have e2 : ∀ k, k < 256 → (nI (txB m (at' + 1)) = nI k ↔ txB m (at' + 1) = k) := fun k hk => nI_eq (by have := (txB_eq m (at' + 1)).2; omega) (by omega)
  have n97 : txB m at' ≠ 97 ∧ txB m at' ≠ 48 ∧ txB m at' ≠ 108 ∧ txB m at' ≠ 103 := by unfold isL at h1; unfold isD at h2; omega
  have st : jv (e + 1) 256 17 [some (.ref 0), some (.ref 6), some (.int (nI n)), some (.int (nI at')), o4, o5, o6, o7, o8] [] (shR, J, L', pR) = jv (e + 1) 256 264 [some (.ref 0), some (.ref 6), some (.int (nI n)), some (.int (nI at')), some (.int (nI (txB m at'))), some (.int (nI at')), some (.long 0), none, o8] [.int (if sgN m n at' = 2 then 1 else 0)] (shR, J, L', pR) := by
    rw [B256_17_a6, if_pos (nI_lt (by omega) (by omega)), tb _ (by omega)]
    dsimp only [Option.toList_some, Option.toList_none, List.cons_append, List.nil_append]
    rw [B256_28_a6, if_neg (show ¬ nI (txB m at') = 32 from fun z => h3 ((e1 32 (by decide)).mp z)), if_neg (show ¬ nI (txB m at') = 10 from fun z => h4 ((e1 10 (by decide)).mp z)), lt, if_neg h1]
    dsimp only [Option.toList_some, Option.toList_none, List.cons_append, List.nil_append]
    rw [B256_61_a6, if_pos rfl, dg, if_neg h2]
    dsimp only [Option.toList_some, Option.toList_none, List.cons_append, List.nil_append]
    rw [B256_136_a6, if_pos rfl]
    have hi : (txB m at' = 60 ∨ txB m at' = 62) → jv (e + 1) 256 239 [some (.ref 0), some (.ref 6), some (.int (nI n)), some (.int (nI at')), some (.int (nI (txB m at'))), some (.int (nI at')), some (.long 0), none, o8] [] (shR, J, L', pR) = jv (e + 1) 256 264 [some (.ref 0), some (.ref 6), some (.int (nI n)), some (.int (nI at')), some (.int (nI (txB m at'))), some (.int (nI at')), some (.long 0), none, o8] [.int (if sgN m n at' = 2 then 1 else 0)] (shR, J, L', pR) := fun z => by
      rw [B256_239_a6, show nI at' + 1 = nI (at' + 1) from nI_add at' 1]
      by_cases q : at' + 1 < n
      · rw [if_pos (nI_lt q (by omega)), tb _ (by omega)]
        dsimp only [Option.toList_some, Option.toList_none, List.cons_append, List.nil_append]
        rw [B256_254_a6]
        by_cases q2 : txB m (at' + 1) = 61
        · rw [if_pos (show nI (txB m (at' + 1)) = 61 from (e2 61 (by decide)).mpr q2), if_pos (show sgN m n at' = 2 from if_pos ⟨z, q, q2⟩)]
        · rw [if_neg (show ¬ nI (txB m (at' + 1)) = 61 from fun y => q2 ((e2 61 (by decide)).mp y)), if_neg (show ¬ sgN m n at' = 2 from by unfold sgN; rw [if_neg (fun y => q2 y.2.2)]; decide), B256_263_a6]
      · rw [if_neg (nI_nlt (by omega) (by omega)), if_neg (show ¬ sgN m n at' = 2 from by unfold sgN; rw [if_neg (fun y => q y.2.1)]; decide), B256_263_a6]
    by_cases q1 : txB m at' = 60
    · rw [if_pos (show nI (txB m at') = 60 from (e1 60 (by decide)).mpr q1)]
      exact hi (Or.inl q1)
    rw [if_neg (show ¬ nI (txB m at') = 60 from fun y => q1 ((e1 60 (by decide)).mp y))]
    by_cases q2 : txB m at' = 62
    · rw [if_pos (show nI (txB m at') = 62 from (e1 62 (by decide)).mpr q2)]
      exact hi (Or.inr q2)
    rw [if_neg (show ¬ nI (txB m at') = 62 from fun y => q2 ((e1 62 (by decide)).mp y)), if_neg (show ¬ sgN m n at' = 2 from by unfold sgN; rw [if_neg (by omega)]; decide), B256_263_a6]
  refine ⟨fun q => ?_, fun q => ⟨some (.int (nI (txB m at'))), some (.int (nI at')), some (.long (0)), none, some (.int (if sgN m n at' = 2 then 1 else 0)), ?_⟩⟩
  · rw [st, B256_264_a6, if_pos ((sg_r _ hb).mpr q), fl]
    dsimp only [Option.toList_some, Option.toList_none, List.cons_append, List.nil_append]
    rw [B256_284_a6, if_pos bl_0]
  · rw [st, B256_264_a6, if_neg (fun z => (sg_r _ hb).mp z q)]
    have fin : ∀ (kd l : Nat) (t : Int32), (l = 1 ∧ t = 0 ∨ l = 2 ∧ t = 1) → jv (e + 1) 256 308 [some (.ref 0), some (.ref 6), some (.int (nI n)), some (.int (nI at')), some (.int (nI (txB m at'))), some (.int (nI at')), some (.long 0), none, some (.int t)] [.int (nI kd), .ref 0] (shR, J, L', pR) = jv (e + 1) 256 17 [some (.ref 0), some (.ref 6), some (.int (nI n)), some (.int (nI (at' + l))), some (.int (nI (txB m at'))), some (.int (nI at')), some (.long 0), none, some (.int t)] [] (shR, tkJ J T kd at', j_up L' 20 T 0, pR) := fun kd l t hh => by
      rw [B256_308_a6, tk]
      dsimp only [Option.toList_some, Option.toList_none, List.cons_append, List.nil_append]
      rw [B256_314_a6]
      rcases hh with ⟨rfl, rfl⟩ | ⟨rfl, rfl⟩
      · rw [if_pos rfl, B256_325_a6, B256_327_a6, show nI at' + 1 = nI (at' + 1) from nI_add _ 1]
      · rw [if_neg (by decide), B256_325_a6, B256_327_a6, show nI at' + 2 = nI (at' + 2) from nI_add _ 2]
    by_cases q2 : sgN m n at' = 2
    · have q3 : (txB m at' = 60 ∨ txB m at' = 62) ∧ at' + 1 < n ∧ txB m (at' + 1) = 61 := Classical.byContradiction fun z => by unfold sgN at q2; rw [if_neg z] at q2; exact absurd q2 (by decide)
      rw [if_pos q2, if_neg (by decide), q2]
      by_cases q4 : txB m at' = 60
      · rw [if_pos (show nI (txB m at') = 60 from (e1 60 (by decide)).mpr q4), show sgK m n at' = 108 from (if_pos q3).trans (if_pos q4)]
        exact fin 3 2 1 (Or.inr ⟨rfl, rfl⟩)
      · rw [if_neg (show ¬ nI (txB m at') = 60 from fun y => q4 ((e1 60 (by decide)).mp y)), show sgK m n at' = 103 from (if_pos q3).trans (if_neg q4)]
        exact fin 4 2 1 (Or.inr ⟨rfl, rfl⟩)
    · have q3 : ¬ ((txB m at' = 60 ∨ txB m at' = 62) ∧ at' + 1 < n ∧ txB m (at' + 1) = 61) := fun z => q2 (if_pos z)
      rw [if_neg q2, if_pos rfl, show sgK m n at' = txB m at' from if_neg q3, show sgN m n at' = 1 from if_neg q3, show kR (txB m at') = txB m at' by unfold kR; rw [if_neg (by omega), if_neg (by omega), if_neg (by omega), if_neg (by omega)]]
      exact fin (txB m at') 1 0 (Or.inl ⟨rfl, rfl⟩)
theorem rW7 (hJ : ∀ q, q < 1189 → J 7 q = m q) (hr : rCst J) (h0 : J 0 29 = 0) {at' n T l : Nat} (hT : J 0 27 = nI T) (ht : T < 1202) (hn : n ≤ 1200) (hl : at' + l ≤ n) (h1 : 1 ≤ l) (hw : ∀ j, j < l → isL (txB m (at' + j))) (he : at' + l = n ∨ ¬ isL (txB m (at' + l))) (o4 o5 o6 o7 o8 : Option Value) : (8 < l → jv (e + 1) 256 17 [some (.ref 0), some (.ref 7), some (.int (nI n)), some (.int (nI at')), o4, o5, o6, o7, o8] [] (shR, J, L', pR) = some (some (.int 0), (shR, j_up (j_up J 0 29 1) 0 30 (nI at'), L', pR))) ∧ (l ≤ 8 → ∃ p4 p5 p6 p7 p8, jv (e + 1) 256 17 [some (.ref 0), some (.ref 7), some (.int (nI n)), some (.int (nI at')), o4, o5, o6, o7, o8] [] (shR, J, L', pR) = jv (e + 1) 256 17 [some (.ref 0), some (.ref 7), some (.int (nI n)), some (.int (nI (at' + l))), p4, p5, p6, p7, p8] [] (shR, tkJ J T 1 at', j_up L' 20 T (vR m at' l), pR)) := by
  have tb : ∀ i, i < 1200 → ∀ K, jgo jTT jMM (e + 1) 252 [.ref 0, .ref 7, .int (nI i)] (shR, J, L', pR) K = K (some (.int (nI (txB m i)))) (shR, J, L', pR) := fun i hi K => jgo_some (d := e) rfl (tb7_r hJ hr hi)
  have lt : ∀ i K, jgo jTT jMM (e + 1) 254 [.int (nI (txB m i))] (shR, J, L', pR) K = K (some (.int (if isL (txB m i) then 1 else 0))) (shR, J, L', pR) := fun i K => jgo_some (d := e) rfl (let_r (txB_eq m i).2)
  have dg : ∀ i K, jgo jTT jMM (e + 1) 255 [.int (nI (txB m i))] (shR, J, L', pR) K = K (some (.int (if isD (txB m i) then 1 else 0))) (shR, J, L', pR) := fun i K => jgo_some (d := e) rfl (dig_r (txB_eq m i).2)
  have fl : ∀ k p K, jgo jTT jMM (e + 1) 253 [.ref 0, .int k, .int p] (shR, J, L', pR) K = K (some (.int 0)) (shR, j_up (j_up J 0 29 k) 0 30 p, L', pR) := fun k p K => jgo_some (d := e) rfl (fails_r h0 k p)
  have tk : ∀ (kd p : Nat) v K, jgo jTT jMM (e + 1) 257 [.ref 0, .int (nI kd), .int (nI p), .long v] (shR, J, L', pR) K = K none (shR, tkJ J T kd p, j_up L' 20 T v, pR) := fun kd p v K => jgo_some (d := e) rfl (tok_r hT ht)
  have w0 : isL (txB m at') := hw 0 h1
  have hb := (txB_eq m at').2
  have key := j_run (fun i => jv (e + 1) 256 64 [some (.ref 0), some (.ref 7), some (.int (nI n)), some (.int (nI (at' + i))), some (.int (nI (txB m at'))), some (.int (nI at')), some (.long (vR m at' i)), none, o8] [] (shR, J, L', pR)) l (fun i hi => by
    show jv (e + 1) 256 64 _ _ _ = jv (e + 1) 256 64 _ _ _
    rw [B256_64_a7, if_pos (nI_lt (by omega) (by omega)), tb _ (by omega)]
    dsimp only [Option.toList_some, Option.toList_none, List.cons_append, List.nil_append]
    rw [B256_75_a7, lt, if_pos (hw i hi)]
    dsimp only [Option.toList_some, Option.toList_none, List.cons_append, List.nil_append]
    rw [B256_78_a7, if_neg (by decide), tb _ (by omega)]
    dsimp only [Option.toList_some, Option.toList_none, List.cons_append, List.nil_append]
    rw [B256_92_a7, show nI (at' + i) + 1 = nI (at' + (i + 1)) from nI_add _ 1]
    rfl)
  have en : jv (e + 1) 256 64 [some (.ref 0), some (.ref 7), some (.int (nI n)), some (.int (nI (at' + l))), some (.int (nI (txB m at'))), some (.int (nI at')), some (.long (vR m at' l)), none, o8] [] (shR, J, L', pR) = jv (e + 1) 256 102 [some (.ref 0), some (.ref 7), some (.int (nI n)), some (.int (nI (at' + l))), some (.int (nI (txB m at'))), some (.int (nI at')), some (.long (vR m at' l)), none, o8] [] (shR, J, L', pR) := by
    rw [B256_64_a7]
    by_cases q : at' + l < n
    · rw [if_pos (nI_lt q (by omega)), tb _ (by omega)]
      dsimp only [Option.toList_some, Option.toList_none, List.cons_append, List.nil_append]
      rw [B256_75_a7, lt, if_neg (he.resolve_left (by omega))]
      dsimp only [Option.toList_some, Option.toList_none, List.cons_append, List.nil_append]
      rw [B256_78_a7, if_pos rfl]
    · rw [if_neg (nI_nlt (by omega) (by omega))]
  have st : jv (e + 1) 256 17 [some (.ref 0), some (.ref 7), some (.int (nI n)), some (.int (nI at')), o4, o5, o6, o7, o8] [] (shR, J, L', pR) = jv (e + 1) 256 102 [some (.ref 0), some (.ref 7), some (.int (nI n)), some (.int (nI (at' + l))), some (.int (nI (txB m at'))), some (.int (nI at')), some (.long (vR m at' l)), none, o8] [] (shR, J, L', pR) := by
    rw [B256_17_a7, if_pos (nI_lt (by omega) (by omega)), tb _ (by omega)]
    dsimp only [Option.toList_some, Option.toList_none, List.cons_append, List.nil_append]
    rw [B256_28_a7, if_neg (show ¬ nI (txB m at') = 32 from fun z => by have := (nI_eq (b := 32) (by omega) (by decide)).mp z; unfold isL at w0; omega), if_neg (show ¬ nI (txB m at') = 10 from fun z => by have := (nI_eq (b := 10) (by omega) (by decide)).mp z; unfold isL at w0; omega), lt, if_pos w0]
    dsimp only [Option.toList_some, Option.toList_none, List.cons_append, List.nil_append]
    rw [B256_61_a7, if_neg (by decide)]
    exact Eq.trans key en
  have sub : nI (at' + l) - nI at' = nI l := by rw [nI_sub (by omega), Nat.add_sub_cancel_left]
  refine ⟨fun q => ?_, fun q => ⟨some (.int (nI (txB m at'))), some (.int (nI at')), some (.long (vR m at' l)), none, o8, ?_⟩⟩
  · rw [st, B256_102_a7, sub, if_pos (show (8 : Int32) < nI l from nI_lt (a := 8) q (by omega)), fl]
    dsimp only [Option.toList_some, Option.toList_none, List.cons_append, List.nil_append]
    rw [B256_118_a7, if_pos bl_0]
  · rw [st, B256_102_a7, sub, if_neg (show ¬ (8 : Int32) < nI l from nI_nlt (a := 8) (by omega) (by decide)), show (1 : Int32) = nI 1 from rfl, tk]
    dsimp only [Option.toList_some, Option.toList_none, List.cons_append, List.nil_append]
    rw [B256_128_a7, B256_327_a7]
theorem rN7 (hJ : ∀ q, q < 1189 → J 7 q = m q) (hr : rCst J) (h0 : J 0 29 = 0) {at' n T l : Nat} (hT : J 0 27 = nI T) (ht : T < 1202) (hn : n ≤ 1200) (hl : at' + l ≤ n) (h1 : 1 ≤ l) (hw : ∀ j, j < l → isD (txB m (at' + j))) (he : at' + l = n ∨ ¬ isD (txB m (at' + l))) (o4 o5 o6 o7 o8 : Option Value) : (9 < l → jv (e + 1) 256 17 [some (.ref 0), some (.ref 7), some (.int (nI n)), some (.int (nI at')), o4, o5, o6, o7, o8] [] (shR, J, L', pR) = some (some (.int 0), (shR, j_up (j_up J 0 29 1) 0 30 (nI at'), L', pR))) ∧ (l ≤ 9 → ∃ p4 p5 p6 p7 p8, jv (e + 1) 256 17 [some (.ref 0), some (.ref 7), some (.int (nI n)), some (.int (nI at')), o4, o5, o6, o7, o8] [] (shR, J, L', pR) = jv (e + 1) 256 17 [some (.ref 0), some (.ref 7), some (.int (nI n)), some (.int (nI (at' + l))), p4, p5, p6, p7, p8] [] (shR, tkJ J T 2 at', j_up L' 20 T (vN m at' l), pR)) := by
  have tb : ∀ i, i < 1200 → ∀ K, jgo jTT jMM (e + 1) 252 [.ref 0, .ref 7, .int (nI i)] (shR, J, L', pR) K = K (some (.int (nI (txB m i)))) (shR, J, L', pR) := fun i hi K => jgo_some (d := e) rfl (tb7_r hJ hr hi)
  have lt : ∀ i K, jgo jTT jMM (e + 1) 254 [.int (nI (txB m i))] (shR, J, L', pR) K = K (some (.int (if isL (txB m i) then 1 else 0))) (shR, J, L', pR) := fun i K => jgo_some (d := e) rfl (let_r (txB_eq m i).2)
  have dg : ∀ i K, jgo jTT jMM (e + 1) 255 [.int (nI (txB m i))] (shR, J, L', pR) K = K (some (.int (if isD (txB m i) then 1 else 0))) (shR, J, L', pR) := fun i K => jgo_some (d := e) rfl (dig_r (txB_eq m i).2)
  have fl : ∀ k p K, jgo jTT jMM (e + 1) 253 [.ref 0, .int k, .int p] (shR, J, L', pR) K = K (some (.int 0)) (shR, j_up (j_up J 0 29 k) 0 30 p, L', pR) := fun k p K => jgo_some (d := e) rfl (fails_r h0 k p)
  have tk : ∀ (kd p : Nat) v K, jgo jTT jMM (e + 1) 257 [.ref 0, .int (nI kd), .int (nI p), .long v] (shR, J, L', pR) K = K none (shR, tkJ J T kd p, j_up L' 20 T v, pR) := fun kd p v K => jgo_some (d := e) rfl (tok_r hT ht)
  have w0 : isD (txB m at') := hw 0 h1
  have hb := (txB_eq m at').2
  have key := j_run (fun i => jv (e + 1) 256 139 [some (.ref 0), some (.ref 7), some (.int (nI n)), some (.int (nI (at' + i))), some (.int (nI (txB m at'))), some (.int (nI at')), some (.long (vM m at' i)), none, o8] [] (shR, J, L', pR)) l (fun i hi => by
    show jv (e + 1) 256 139 _ _ _ = jv (e + 1) 256 139 _ _ _
    have sub : nI (at' + i) - nI at' = nI i := by rw [nI_sub (by omega), Nat.add_sub_cancel_left]
    rw [B256_139_a7, if_pos (nI_lt (by omega) (by omega)), tb _ (by omega)]
    dsimp only [Option.toList_some, Option.toList_none, List.cons_append, List.nil_append]
    rw [B256_150_a7, dg, if_pos (hw i hi)]
    dsimp only [Option.toList_some, Option.toList_none, List.cons_append, List.nil_append]
    rw [B256_153_a7, if_neg (by decide), sub]
    by_cases q : i < 9
    · rw [if_pos (show nI i < (9 : Int32) from nI_lt (b := 9) q (by decide)), tb _ (by omega)]
      dsimp only [Option.toList_some, Option.toList_none, List.cons_append, List.nil_append]
      rw [B256_177_a7, B256_188_a7, show nI (at' + i) + 1 = nI (at' + (i + 1)) from nI_add _ 1, show vM m at' (i + 1) = vM m at' i * 10 + (nI (txB m (at' + i))).toInt64 - 48 from if_pos q]
    · rw [if_neg (show ¬ nI i < (9 : Int32) from nI_nlt (b := 9) (by omega) (by omega)), B256_188_a7, show nI (at' + i) + 1 = nI (at' + (i + 1)) from nI_add _ 1, show vM m at' (i + 1) = vM m at' i from if_neg q])
  have en : jv (e + 1) 256 139 [some (.ref 0), some (.ref 7), some (.int (nI n)), some (.int (nI (at' + l))), some (.int (nI (txB m at'))), some (.int (nI at')), some (.long (vM m at' l)), none, o8] [] (shR, J, L', pR) = jv (e + 1) 256 196 [some (.ref 0), some (.ref 7), some (.int (nI n)), some (.int (nI (at' + l))), some (.int (nI (txB m at'))), some (.int (nI at')), some (.long (vM m at' l)), none, o8] [] (shR, J, L', pR) := by
    rw [B256_139_a7]
    by_cases q : at' + l < n
    · rw [if_pos (nI_lt q (by omega)), tb _ (by omega)]
      dsimp only [Option.toList_some, Option.toList_none, List.cons_append, List.nil_append]
      rw [B256_150_a7, dg, if_neg (he.resolve_left (by omega))]
      dsimp only [Option.toList_some, Option.toList_none, List.cons_append, List.nil_append]
      rw [B256_153_a7, if_pos rfl]
    · rw [if_neg (nI_nlt (by omega) (by omega))]
  have st : jv (e + 1) 256 17 [some (.ref 0), some (.ref 7), some (.int (nI n)), some (.int (nI at')), o4, o5, o6, o7, o8] [] (shR, J, L', pR) = jv (e + 1) 256 196 [some (.ref 0), some (.ref 7), some (.int (nI n)), some (.int (nI (at' + l))), some (.int (nI (txB m at'))), some (.int (nI at')), some (.long (vM m at' l)), none, o8] [] (shR, J, L', pR) := by
    rw [B256_17_a7, if_pos (nI_lt (by omega) (by omega)), tb _ (by omega)]
    dsimp only [Option.toList_some, Option.toList_none, List.cons_append, List.nil_append]
    rw [B256_28_a7, if_neg (show ¬ nI (txB m at') = 32 from fun z => by have := (nI_eq (b := 32) (by omega) (by decide)).mp z; unfold isD at w0; omega), if_neg (show ¬ nI (txB m at') = 10 from fun z => by have := (nI_eq (b := 10) (by omega) (by decide)).mp z; unfold isD at w0; omega), lt, if_neg (show ¬ isL (txB m at') by unfold isL; unfold isD at w0; omega)]
    dsimp only [Option.toList_some, Option.toList_none, List.cons_append, List.nil_append]
    rw [B256_61_a7, if_pos rfl, dg, if_pos w0]
    dsimp only [Option.toList_some, Option.toList_none, List.cons_append, List.nil_append]
    rw [B256_136_a7, if_neg (by decide)]
    exact Eq.trans key en
  have sub : nI (at' + l) - nI at' = nI l := by rw [nI_sub (by omega), Nat.add_sub_cancel_left]
  refine ⟨fun q => ?_, fun q => ⟨some (.int (nI (txB m at'))), some (.int (nI at')), some (.long (vN m at' l)), none, o8, ?_⟩⟩
  · rw [st, B256_196_a7, sub, if_pos (show (9 : Int32) < nI l from nI_lt (a := 9) q (by omega)), fl]
    dsimp only [Option.toList_some, Option.toList_none, List.cons_append, List.nil_append]
    rw [B256_212_a7, if_pos bl_0]
  · rw [st, B256_196_a7, sub, if_neg (show ¬ (9 : Int32) < nI l from nI_nlt (a := 9) (by omega) (by decide)), show (2 : Int32) = nI 2 from rfl, tk, vM_eq _ _ q]
    dsimp only [Option.toList_some, Option.toList_none, List.cons_append, List.nil_append]
    rw [B256_222_a7, B256_327_a7]
theorem rS7 (hJ : ∀ q, q < 1189 → J 7 q = m q) (hr : rCst J) (h0 : J 0 29 = 0) {at' n T : Nat} (hT : J 0 27 = nI T) (ht : T < 1202) (hn : n ≤ 1200) (hl : at' < n) (h1 : ¬ isL (txB m at')) (h2 : ¬ isD (txB m at')) (h3 : txB m at' ≠ 32) (h4 : txB m at' ≠ 10) (o4 o5 o6 o7 o8 : Option Value) : (¬ txB m at' ∈ sgL → jv (e + 1) 256 17 [some (.ref 0), some (.ref 7), some (.int (nI n)), some (.int (nI at')), o4, o5, o6, o7, o8] [] (shR, J, L', pR) = some (some (.int 0), (shR, j_up (j_up J 0 29 1) 0 30 (nI at'), L', pR))) ∧ (txB m at' ∈ sgL → ∃ p4 p5 p6 p7 p8, jv (e + 1) 256 17 [some (.ref 0), some (.ref 7), some (.int (nI n)), some (.int (nI at')), o4, o5, o6, o7, o8] [] (shR, J, L', pR) = jv (e + 1) 256 17 [some (.ref 0), some (.ref 7), some (.int (nI n)), some (.int (nI (at' + sgN m n at'))), p4, p5, p6, p7, p8] [] (shR, tkJ J T (kR (sgK m n at')) at', j_up L' 20 T 0, pR)) := by
  have tb : ∀ i, i < 1200 → ∀ K, jgo jTT jMM (e + 1) 252 [.ref 0, .ref 7, .int (nI i)] (shR, J, L', pR) K = K (some (.int (nI (txB m i)))) (shR, J, L', pR) := fun i hi K => jgo_some (d := e) rfl (tb7_r hJ hr hi)
  have lt : ∀ i K, jgo jTT jMM (e + 1) 254 [.int (nI (txB m i))] (shR, J, L', pR) K = K (some (.int (if isL (txB m i) then 1 else 0))) (shR, J, L', pR) := fun i K => jgo_some (d := e) rfl (let_r (txB_eq m i).2)
  have dg : ∀ i K, jgo jTT jMM (e + 1) 255 [.int (nI (txB m i))] (shR, J, L', pR) K = K (some (.int (if isD (txB m i) then 1 else 0))) (shR, J, L', pR) := fun i K => jgo_some (d := e) rfl (dig_r (txB_eq m i).2)
  have fl : ∀ k p K, jgo jTT jMM (e + 1) 253 [.ref 0, .int k, .int p] (shR, J, L', pR) K = K (some (.int 0)) (shR, j_up (j_up J 0 29 k) 0 30 p, L', pR) := fun k p K => jgo_some (d := e) rfl (fails_r h0 k p)
  have tk : ∀ (kd p : Nat) v K, jgo jTT jMM (e + 1) 257 [.ref 0, .int (nI kd), .int (nI p), .long v] (shR, J, L', pR) K = K none (shR, tkJ J T kd p, j_up L' 20 T v, pR) := fun kd p v K => jgo_some (d := e) rfl (tok_r hT ht)
  have hb := (txB_eq m at').2
  have e1 : ∀ k, k < 256 → (nI (txB m at') = nI k ↔ txB m at' = k) := fun k hk => nI_eq (by omega) (by omega)
  have e2 : ∀ k, k < 256 → (nI (txB m (at' + 1)) = nI k ↔ txB m (at' + 1) = k) := fun k hk => nI_eq (by have := (txB_eq m (at' + 1)).2; omega) (by omega)
  have n97 : txB m at' ≠ 97 ∧ txB m at' ≠ 48 ∧ txB m at' ≠ 108 ∧ txB m at' ≠ 103 := by unfold isL at h1; unfold isD at h2; omega
  have st : jv (e + 1) 256 17 [some (.ref 0), some (.ref 7), some (.int (nI n)), some (.int (nI at')), o4, o5, o6, o7, o8] [] (shR, J, L', pR) = jv (e + 1) 256 264 [some (.ref 0), some (.ref 7), some (.int (nI n)), some (.int (nI at')), some (.int (nI (txB m at'))), some (.int (nI at')), some (.long 0), none, o8] [.int (if sgN m n at' = 2 then 1 else 0)] (shR, J, L', pR) := by
    rw [B256_17_a7, if_pos (nI_lt (by omega) (by omega)), tb _ (by omega)]
    dsimp only [Option.toList_some, Option.toList_none, List.cons_append, List.nil_append]
    rw [B256_28_a7, if_neg (show ¬ nI (txB m at') = 32 from fun z => h3 ((e1 32 (by decide)).mp z)), if_neg (show ¬ nI (txB m at') = 10 from fun z => h4 ((e1 10 (by decide)).mp z)), lt, if_neg h1]
    dsimp only [Option.toList_some, Option.toList_none, List.cons_append, List.nil_append]
    rw [B256_61_a7, if_pos rfl, dg, if_neg h2]
    dsimp only [Option.toList_some, Option.toList_none, List.cons_append, List.nil_append]
    rw [B256_136_a7, if_pos rfl]
    have hi : (txB m at' = 60 ∨ txB m at' = 62) → jv (e + 1) 256 239 [some (.ref 0), some (.ref 7), some (.int (nI n)), some (.int (nI at')), some (.int (nI (txB m at'))), some (.int (nI at')), some (.long 0), none, o8] [] (shR, J, L', pR) = jv (e + 1) 256 264 [some (.ref 0), some (.ref 7), some (.int (nI n)), some (.int (nI at')), some (.int (nI (txB m at'))), some (.int (nI at')), some (.long 0), none, o8] [.int (if sgN m n at' = 2 then 1 else 0)] (shR, J, L', pR) := fun z => by
      rw [B256_239_a7, show nI at' + 1 = nI (at' + 1) from nI_add at' 1]
      by_cases q : at' + 1 < n
      · rw [if_pos (nI_lt q (by omega)), tb _ (by omega)]
        dsimp only [Option.toList_some, Option.toList_none, List.cons_append, List.nil_append]
        rw [B256_254_a7]
        by_cases q2 : txB m (at' + 1) = 61
        · rw [if_pos (show nI (txB m (at' + 1)) = 61 from (e2 61 (by decide)).mpr q2), if_pos (show sgN m n at' = 2 from if_pos ⟨z, q, q2⟩)]
        · rw [if_neg (show ¬ nI (txB m (at' + 1)) = 61 from fun y => q2 ((e2 61 (by decide)).mp y)), if_neg (show ¬ sgN m n at' = 2 from by unfold sgN; rw [if_neg (fun y => q2 y.2.2)]; decide), B256_263_a7]
      · rw [if_neg (nI_nlt (by omega) (by omega)), if_neg (show ¬ sgN m n at' = 2 from by unfold sgN; rw [if_neg (fun y => q y.2.1)]; decide), B256_263_a7]
    by_cases q1 : txB m at' = 60
    · rw [if_pos (show nI (txB m at') = 60 from (e1 60 (by decide)).mpr q1)]
      exact hi (Or.inl q1)
    rw [if_neg (show ¬ nI (txB m at') = 60 from fun y => q1 ((e1 60 (by decide)).mp y))]
    by_cases q2 : txB m at' = 62
    · rw [if_pos (show nI (txB m at') = 62 from (e1 62 (by decide)).mpr q2)]
      exact hi (Or.inr q2)
    rw [if_neg (show ¬ nI (txB m at') = 62 from fun y => q2 ((e1 62 (by decide)).mp y)), if_neg (show ¬ sgN m n at' = 2 from by unfold sgN; rw [if_neg (by omega)]; decide), B256_263_a7]
  refine ⟨fun q => ?_, fun q => ⟨some (.int (nI (txB m at'))), some (.int (nI at')), some (.long (0)), none, some (.int (if sgN m n at' = 2 then 1 else 0)), ?_⟩⟩
  · rw [st, B256_264_a7, if_pos ((sg_r _ hb).mpr q), fl]
    dsimp only [Option.toList_some, Option.toList_none, List.cons_append, List.nil_append]
    rw [B256_284_a7, if_pos bl_0]
  · rw [st, B256_264_a7, if_neg (fun z => (sg_r _ hb).mp z q)]
    have fin : ∀ (kd l : Nat) (t : Int32), (l = 1 ∧ t = 0 ∨ l = 2 ∧ t = 1) → jv (e + 1) 256 308 [some (.ref 0), some (.ref 7), some (.int (nI n)), some (.int (nI at')), some (.int (nI (txB m at'))), some (.int (nI at')), some (.long 0), none, some (.int t)] [.int (nI kd), .ref 0] (shR, J, L', pR) = jv (e + 1) 256 17 [some (.ref 0), some (.ref 7), some (.int (nI n)), some (.int (nI (at' + l))), some (.int (nI (txB m at'))), some (.int (nI at')), some (.long 0), none, some (.int t)] [] (shR, tkJ J T kd at', j_up L' 20 T 0, pR) := fun kd l t hh => by
      rw [B256_308_a7, tk]
      dsimp only [Option.toList_some, Option.toList_none, List.cons_append, List.nil_append]
      rw [B256_314_a7]
      rcases hh with ⟨rfl, rfl⟩ | ⟨rfl, rfl⟩
      · rw [if_pos rfl, B256_325_a7, B256_327_a7, show nI at' + 1 = nI (at' + 1) from nI_add _ 1]
      · rw [if_neg (by decide), B256_325_a7, B256_327_a7, show nI at' + 2 = nI (at' + 2) from nI_add _ 2]
    by_cases q2 : sgN m n at' = 2
    · have q3 : (txB m at' = 60 ∨ txB m at' = 62) ∧ at' + 1 < n ∧ txB m (at' + 1) = 61 := Classical.byContradiction fun z => by unfold sgN at q2; rw [if_neg z] at q2; exact absurd q2 (by decide)
      rw [if_pos q2, if_neg (by decide), q2]
      by_cases q4 : txB m at' = 60
      · rw [if_pos (show nI (txB m at') = 60 from (e1 60 (by decide)).mpr q4), show sgK m n at' = 108 from (if_pos q3).trans (if_pos q4)]
        exact fin 3 2 1 (Or.inr ⟨rfl, rfl⟩)
      · rw [if_neg (show ¬ nI (txB m at') = 60 from fun y => q4 ((e1 60 (by decide)).mp y)), show sgK m n at' = 103 from (if_pos q3).trans (if_neg q4)]
        exact fin 4 2 1 (Or.inr ⟨rfl, rfl⟩)
    · have q3 : ¬ ((txB m at' = 60 ∨ txB m at' = 62) ∧ at' + 1 < n ∧ txB m (at' + 1) = 61) := fun z => q2 (if_pos z)
      rw [if_neg q2, if_pos rfl, show sgK m n at' = txB m at' from if_neg q3, show sgN m n at' = 1 from if_neg q3, show kR (txB m at') = txB m at' by unfold kR; rw [if_neg (by omega), if_neg (by omega), if_neg (by omega), if_neg (by omega)]]
      exact fin (txB m at') 1 0 (Or.inl ⟨rfl, rfl⟩)
end TOKC
