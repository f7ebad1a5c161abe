/-! THE CONSTRUCTORS: setLeast -/
def flN : List Nat := [0, 8, 17, 25, 30, 32, 38, 43, 57, 64, 72, 77, 78]
theorem tz0 : ∀ t, t < 13 → z_0.getD t 0 = nI (rowsN.getD t 0) := by decide +kernel
theorem tz1 : ∀ t, t < 13 → z_1.getD t 0 = nI (fieldsN.getD t 0) := by decide +kernel
theorem tz2 : ∀ t, t < 13 → z_2.getD t 0 = nI (frN.getD t 0) := by decide +kernel
theorem tz3 : ∀ t, t < 13 → z_3.getD t 0 = nI (fpN.getD t 0) := by decide +kernel
theorem tz4 : ∀ t, t < 13 → z_4.getD t 0 = nI (flN.getD t 0) := by decide +kernel
theorem tz5 : ∀ t, t < 12 → ∀ f, f < 14 → f < fieldsN.getD t 0 → (if (0 : Int32) < z_5.getD (flN.getD t 0 + f) 0 then z_5.getD (flN.getD t 0 + f) 0 else 0) = initv t f := by decide +kernel
theorem tab_fl : ∀ t, t < 12 → ∀ f, f < 14 → f < fieldsN.getD t 0 → flN.getD t 0 + f < 78 := by decide +kernel
theorem tab_F14 : ∀ t, t < 12 → fieldsN.getD t 0 ≤ 14 := by decide +kernel
theorem tab_F0 : ∀ t, t < 13 → 0 < fieldsN.getD t 0 := by decide +kernel
theorem tab_v {t i : Nat} (ht : t < 12) (hi : i < rowsN.getD t 0 * fieldsN.getD t 0) : (if (0 : Int32) < z_5.getD (flN.getD t 0 + i % fieldsN.getD t 0) 0 then z_5.getD (flN.getD t 0 + i % fieldsN.getD t 0) 0 else 0) = m0f (fpN.getD t 0 + i) := by
  have hF := tab_F0 t (by omega)
  have hm : i % fieldsN.getD t 0 < fieldsN.getD t 0 := Nat.mod_lt _ hF
  have h14 := tab_F14 t ht
  rw [tz5 t ht _ (by omega) hm, ← tab_m0 (t := t) (r := i / fieldsN.getD t 0) (by omega) ((Nat.div_lt_iff_lt_mul hF).mpr hi) hm]
  congr 1
  have := Nat.div_add_mod i (fieldsN.getD t 0)
  rw [Nat.mul_comm] at this
  omega
theorem m0f_big {j : Nat} (h : 432 ≤ j) : m0f j = 0 := by
  unfold m0f
  rw [if_neg (by omega), if_neg (by omega)]
theorem fill_m0 (f : Nat → Int32) : j_fill (j_fill f (fun _ => 0) 1189) m0f 888 = j_fill f m0f 1189 := by
  funext j
  simp only [j_fill]
  by_cases h1 : j < 888
  · rw [if_pos h1, if_pos (by omega)]
  · rw [if_neg h1]
    by_cases h2 : j < 1189
    · rw [if_pos h2, if_pos h2, m0f_big (by omega)]
    · rw [if_neg h2, if_neg h2]
theorem fill_m0z : j_fill (fun _ => 0) m0f 1189 = m0f := by
  funext j
  simp only [j_fill]
  by_cases h2 : j < 1189
  · rw [if_pos h2]
  · rw [if_neg h2, m0f_big (by omega)]
theorem setLeast_n1 {d : Nat} (I : Nat → Nat → Int32) (L : Nat → Nat → Int64) (Q : Nat → Nat → Option Nat) (o1 o2 : Option Value) : jv (d + 1) 47 0 [some (.ref 1), o1, o2] [] (shC.take 3, I, L, (j_up Q 1 0 (some 2))) = some (none, (shC.take 3, va_up I 2 (j_fill (I 2) m0f 1189), L, (j_up Q 1 0 (some 2)))) := by
  rw [B47_0_n1, jgo_some rfl (fill_int (n := 1189) rfl (by decide) 0 _ _ I L _)]
  simp only [Option.toList, List.nil_append]
  rw [B47_8_n1]
  have outer := j_runE (fun t (x : Option Value) => jv (d + 1) 47 10 [some (.ref 1), some (.int (nI t)), x] [] (shC.take 3, va_up I 2 (j_fill (j_fill (I 2) (fun _ => 0) 1189) m0f (fpN.getD t 0)), L, (j_up Q 1 0 (some 2)))) 12 (fun t ht x => by
    obtain ⟨q1, q2, q3, q4⟩ := tab_fp t (by omega)
    have h13 : t < 13 := by omega
    have hF := tab_F0 t h13
    have hj := j_in_nI h13 (show 13 < 2 ^ 31 by decide)
    have inner := j_run (fun i => jv (d + 1) 47 18 [some (.ref 1), some (.int (nI t)), some (.int (nI i))] [] (shC.take 3, va_up I 2 (j_fill (j_fill (I 2) (fun _ => 0) 1189) m0f (fpN.getD t 0 + i)), L, (j_up Q 1 0 (some 2)))) (rowsN.getD t 0 * fieldsN.getD t 0) (fun i hi => by
      have hm : i % fieldsN.getD t 0 < fieldsN.getD t 0 := Nat.mod_lt _ hF
      have h78 := tab_fl t ht _ (by have := tab_F14 t ht; omega) hm
      have hv := tab_v ht hi
      rw [B47_18_n1]
      simp only [if_pos hj, nI_clamp (show t < 2 ^ 31 by omega), tz0 t h13, tz1 t h13, tz3 t h13, tz4 t h13, nI_mul, if_pos (nI_lt hi (by omega)), if_neg (nI_ne0 hF (by omega)), nI_mod (show i < 2 ^ 31 by omega) (show fieldsN.getD t 0 < 2 ^ 31 by omega), nI_add, if_pos (j_in_nI h78 (by decide)), if_pos (j_in_nI (show fpN.getD t 0 + i < 1189 by omega) (by decide)), nI_clamp (show fpN.getD t 0 + i < 2 ^ 31 by omega), nI_clamp (show flN.getD t 0 + i % fieldsN.getD t 0 < 2 ^ 31 by omega), hv, nI_1]
      rw [j_up_fill, Nat.add_assoc])
    refine ⟨some (.int (nI (rowsN.getD t 0 * fieldsN.getD t 0))), ?_⟩
    try dsimp only at inner ⊢
    rw [B47_10_n1, if_pos (show nI t < (12 : Int32) from nI_lt (b := 12) ht (by decide))]
    refine inner.trans ?_
    rw [B47_18_n1]
    simp only [if_pos hj, nI_clamp (show t < 2 ^ 31 by omega), tz0 t h13, tz1 t h13, nI_mul, if_neg (nI_nlt (Nat.le_refl _) (show rowsN.getD t 0 * fieldsN.getD t 0 < 2 ^ 31 by omega)), nI_1, q1])
  obtain ⟨x, hx⟩ := outer o2
  try dsimp only at hx
  rw [show fpN.getD 0 0 = 0 from rfl, j_fill_zero] at hx
  refine hx.trans ?_
  rw [B47_10_n1, if_neg (show ¬ nI 12 < (12 : Int32) from nI_nlt (a := 12) (b := 12) (Nat.le_refl _) (by decide)), show fpN.getD 12 0 = 888 from rfl, fill_m0]
theorem setLeast_n3 {d : Nat} (I : Nat → Nat → Int32) (L : Nat → Nat → Int64) (Q : Nat → Nat → Option Nat) (o1 o2 : Option Value) : jv (d + 1) 47 0 [some (.ref 3), o1, o2] [] (shC.take 5, I, L, (j_up Q 3 0 (some 4))) = some (none, (shC.take 5, va_up I 4 (j_fill (I 4) m0f 1189), L, (j_up Q 3 0 (some 4)))) := by
  rw [B47_0_n3, jgo_some rfl (fill_int (n := 1189) rfl (by decide) 0 _ _ I L _)]
  simp only [Option.toList, List.nil_append]
  rw [B47_8_n3]
  have outer := j_runE (fun t (x : Option Value) => jv (d + 1) 47 10 [some (.ref 3), some (.int (nI t)), x] [] (shC.take 5, va_up I 4 (j_fill (j_fill (I 4) (fun _ => 0) 1189) m0f (fpN.getD t 0)), L, (j_up Q 3 0 (some 4)))) 12 (fun t ht x => by
    obtain ⟨q1, q2, q3, q4⟩ := tab_fp t (by omega)
    have h13 : t < 13 := by omega
    have hF := tab_F0 t h13
    have hj := j_in_nI h13 (show 13 < 2 ^ 31 by decide)
    have inner := j_run (fun i => jv (d + 1) 47 18 [some (.ref 3), some (.int (nI t)), some (.int (nI i))] [] (shC.take 5, va_up I 4 (j_fill (j_fill (I 4) (fun _ => 0) 1189) m0f (fpN.getD t 0 + i)), L, (j_up Q 3 0 (some 4)))) (rowsN.getD t 0 * fieldsN.getD t 0) (fun i hi => by
      have hm : i % fieldsN.getD t 0 < fieldsN.getD t 0 := Nat.mod_lt _ hF
      have h78 := tab_fl t ht _ (by have := tab_F14 t ht; omega) hm
      have hv := tab_v ht hi
      rw [B47_18_n3]
      simp only [if_pos hj, nI_clamp (show t < 2 ^ 31 by omega), tz0 t h13, tz1 t h13, tz3 t h13, tz4 t h13, nI_mul, if_pos (nI_lt hi (by omega)), if_neg (nI_ne0 hF (by omega)), nI_mod (show i < 2 ^ 31 by omega) (show fieldsN.getD t 0 < 2 ^ 31 by omega), nI_add, if_pos (j_in_nI h78 (by decide)), if_pos (j_in_nI (show fpN.getD t 0 + i < 1189 by omega) (by decide)), nI_clamp (show fpN.getD t 0 + i < 2 ^ 31 by omega), nI_clamp (show flN.getD t 0 + i % fieldsN.getD t 0 < 2 ^ 31 by omega), hv, nI_1]
      rw [j_up_fill, Nat.add_assoc])
    refine ⟨some (.int (nI (rowsN.getD t 0 * fieldsN.getD t 0))), ?_⟩
    try dsimp only at inner ⊢
    rw [B47_10_n3, if_pos (show nI t < (12 : Int32) from nI_lt (b := 12) ht (by decide))]
    refine inner.trans ?_
    rw [B47_18_n3]
    simp only [if_pos hj, nI_clamp (show t < 2 ^ 31 by omega), tz0 t h13, tz1 t h13, nI_mul, if_neg (nI_nlt (Nat.le_refl _) (show rowsN.getD t 0 * fieldsN.getD t 0 < 2 ^ 31 by omega)), nI_1, q1])
  obtain ⟨x, hx⟩ := outer o2
  try dsimp only at hx
  rw [show fpN.getD 0 0 = 0 from rfl, j_fill_zero] at hx
  refine hx.trans ?_
  rw [B47_10_n3, if_neg (show ¬ nI 12 < (12 : Int32) from nI_nlt (a := 12) (b := 12) (Nat.le_refl _) (by decide)), show fpN.getD 12 0 = 888 from rfl, fill_m0]
theorem setLeast_n5 {d : Nat} (I : Nat → Nat → Int32) (L : Nat → Nat → Int64) (Q : Nat → Nat → Option Nat) (o1 o2 : Option Value) : jv (d + 1) 47 0 [some (.ref 5), o1, o2] [] (shC.take 7, I, L, (j_up Q 5 0 (some 6))) = some (none, (shC.take 7, va_up I 6 (j_fill (I 6) m0f 1189), L, (j_up Q 5 0 (some 6)))) := by
  rw [B47_0_n5, jgo_some rfl (fill_int (n := 1189) rfl (by decide) 0 _ _ I L _)]
  simp only [Option.toList, List.nil_append]
  rw [B47_8_n5]
  have outer := j_runE (fun t (x : Option Value) => jv (d + 1) 47 10 [some (.ref 5), some (.int (nI t)), x] [] (shC.take 7, va_up I 6 (j_fill (j_fill (I 6) (fun _ => 0) 1189) m0f (fpN.getD t 0)), L, (j_up Q 5 0 (some 6)))) 12 (fun t ht x => by
    obtain ⟨q1, q2, q3, q4⟩ := tab_fp t (by omega)
    have h13 : t < 13 := by omega
    have hF := tab_F0 t h13
    have hj := j_in_nI h13 (show 13 < 2 ^ 31 by decide)
    have inner := j_run (fun i => jv (d + 1) 47 18 [some (.ref 5), some (.int (nI t)), some (.int (nI i))] [] (shC.take 7, va_up I 6 (j_fill (j_fill (I 6) (fun _ => 0) 1189) m0f (fpN.getD t 0 + i)), L, (j_up Q 5 0 (some 6)))) (rowsN.getD t 0 * fieldsN.getD t 0) (fun i hi => by
      have hm : i % fieldsN.getD t 0 < fieldsN.getD t 0 := Nat.mod_lt _ hF
      have h78 := tab_fl t ht _ (by have := tab_F14 t ht; omega) hm
      have hv := tab_v ht hi
      rw [B47_18_n5]
      simp only [if_pos hj, nI_clamp (show t < 2 ^ 31 by omega), tz0 t h13, tz1 t h13, tz3 t h13, tz4 t h13, nI_mul, if_pos (nI_lt hi (by omega)), if_neg (nI_ne0 hF (by omega)), nI_mod (show i < 2 ^ 31 by omega) (show fieldsN.getD t 0 < 2 ^ 31 by omega), nI_add, if_pos (j_in_nI h78 (by decide)), if_pos (j_in_nI (show fpN.getD t 0 + i < 1189 by omega) (by decide)), nI_clamp (show fpN.getD t 0 + i < 2 ^ 31 by omega), nI_clamp (show flN.getD t 0 + i % fieldsN.getD t 0 < 2 ^ 31 by omega), hv, nI_1]
      rw [j_up_fill, Nat.add_assoc])
    refine ⟨some (.int (nI (rowsN.getD t 0 * fieldsN.getD t 0))), ?_⟩
    try dsimp only at inner ⊢
    rw [B47_10_n5, if_pos (show nI t < (12 : Int32) from nI_lt (b := 12) ht (by decide))]
    refine inner.trans ?_
    rw [B47_18_n5]
    simp only [if_pos hj, nI_clamp (show t < 2 ^ 31 by omega), tz0 t h13, tz1 t h13, nI_mul, if_neg (nI_nlt (Nat.le_refl _) (show rowsN.getD t 0 * fieldsN.getD t 0 < 2 ^ 31 by omega)), nI_1, q1])
  obtain ⟨x, hx⟩ := outer o2
  try dsimp only at hx
  rw [show fpN.getD 0 0 = 0 from rfl, j_fill_zero] at hx
  refine hx.trans ?_
  rw [B47_10_n5, if_neg (show ¬ nI 12 < (12 : Int32) from nI_nlt (a := 12) (b := 12) (Nat.le_refl _) (by decide)), show fpN.getD 12 0 = 888 from rfl, fill_m0]
theorem setLeast_o1 {d : Nat} (I : Nat → Nat → Int32) (L : Nat → Nat → Int64) (pa pb pu pw : Option Nat) (o1 o2 : Option Value) : jv (d + 1) 47 0 [some (.ref 1), o1, o2] [] (shC, I, L, (pX pa pb pu pw)) = some (none, (shC, va_up I 2 (j_fill (I 2) m0f 1189), L, (pX pa pb pu pw))) := by
  rw [B47_0_o1, jgo_some rfl (fill_int (n := 1189) rfl (by decide) 0 _ _ I L _)]
  simp only [Option.toList, List.nil_append]
  rw [B47_8_o1]
  have outer := j_runE (fun t (x : Option Value) => jv (d + 1) 47 10 [some (.ref 1), some (.int (nI t)), x] [] (shC, va_up I 2 (j_fill (j_fill (I 2) (fun _ => 0) 1189) m0f (fpN.getD t 0)), L, (pX pa pb pu pw))) 12 (fun t ht x => by
    obtain ⟨q1, q2, q3, q4⟩ := tab_fp t (by omega)
    have h13 : t < 13 := by omega
    have hF := tab_F0 t h13
    have hj := j_in_nI h13 (show 13 < 2 ^ 31 by decide)
    have inner := j_run (fun i => jv (d + 1) 47 18 [some (.ref 1), some (.int (nI t)), some (.int (nI i))] [] (shC, va_up I 2 (j_fill (j_fill (I 2) (fun _ => 0) 1189) m0f (fpN.getD t 0 + i)), L, (pX pa pb pu pw))) (rowsN.getD t 0 * fieldsN.getD t 0) (fun i hi => by
      have hm : i % fieldsN.getD t 0 < fieldsN.getD t 0 := Nat.mod_lt _ hF
      have h78 := tab_fl t ht _ (by have := tab_F14 t ht; omega) hm
      have hv := tab_v ht hi
      rw [B47_18_o1]
      simp only [if_pos hj, nI_clamp (show t < 2 ^ 31 by omega), tz0 t h13, tz1 t h13, tz3 t h13, tz4 t h13, nI_mul, if_pos (nI_lt hi (by omega)), if_neg (nI_ne0 hF (by omega)), nI_mod (show i < 2 ^ 31 by omega) (show fieldsN.getD t 0 < 2 ^ 31 by omega), nI_add, if_pos (j_in_nI h78 (by decide)), if_pos (j_in_nI (show fpN.getD t 0 + i < 1189 by omega) (by decide)), nI_clamp (show fpN.getD t 0 + i < 2 ^ 31 by omega), nI_clamp (show flN.getD t 0 + i % fieldsN.getD t 0 < 2 ^ 31 by omega), hv, nI_1]
      rw [j_up_fill, Nat.add_assoc])
    refine ⟨some (.int (nI (rowsN.getD t 0 * fieldsN.getD t 0))), ?_⟩
    try dsimp only at inner ⊢
    rw [B47_10_o1, if_pos (show nI t < (12 : Int32) from nI_lt (b := 12) ht (by decide))]
    refine inner.trans ?_
    rw [B47_18_o1]
    simp only [if_pos hj, nI_clamp (show t < 2 ^ 31 by omega), tz0 t h13, tz1 t h13, nI_mul, if_neg (nI_nlt (Nat.le_refl _) (show rowsN.getD t 0 * fieldsN.getD t 0 < 2 ^ 31 by omega)), nI_1, q1])
  obtain ⟨x, hx⟩ := outer o2
  try dsimp only at hx
  rw [show fpN.getD 0 0 = 0 from rfl, j_fill_zero] at hx
  refine hx.trans ?_
  rw [B47_10_o1, if_neg (show ¬ nI 12 < (12 : Int32) from nI_nlt (a := 12) (b := 12) (Nat.le_refl _) (by decide)), show fpN.getD 12 0 = 888 from rfl, fill_m0]
theorem setLeast_o5 {d : Nat} (I : Nat → Nat → Int32) (L : Nat → Nat → Int64) (pa pb pu pw : Option Nat) (o1 o2 : Option Value) : jv (d + 1) 47 0 [some (.ref 5), o1, o2] [] (shC, I, L, (pX pa pb pu pw)) = some (none, (shC, va_up I 6 (j_fill (I 6) m0f 1189), L, (pX pa pb pu pw))) := by
  rw [B47_0_o5, jgo_some rfl (fill_int (n := 1189) rfl (by decide) 0 _ _ I L _)]
  simp only [Option.toList, List.nil_append]
  rw [B47_8_o5]
  have outer := j_runE (fun t (x : Option Value) => jv (d + 1) 47 10 [some (.ref 5), some (.int (nI t)), x] [] (shC, va_up I 6 (j_fill (j_fill (I 6) (fun _ => 0) 1189) m0f (fpN.getD t 0)), L, (pX pa pb pu pw))) 12 (fun t ht x => by
    obtain ⟨q1, q2, q3, q4⟩ := tab_fp t (by omega)
    have h13 : t < 13 := by omega
    have hF := tab_F0 t h13
    have hj := j_in_nI h13 (show 13 < 2 ^ 31 by decide)
    have inner := j_run (fun i => jv (d + 1) 47 18 [some (.ref 5), some (.int (nI t)), some (.int (nI i))] [] (shC, va_up I 6 (j_fill (j_fill (I 6) (fun _ => 0) 1189) m0f (fpN.getD t 0 + i)), L, (pX pa pb pu pw))) (rowsN.getD t 0 * fieldsN.getD t 0) (fun i hi => by
      have hm : i % fieldsN.getD t 0 < fieldsN.getD t 0 := Nat.mod_lt _ hF
      have h78 := tab_fl t ht _ (by have := tab_F14 t ht; omega) hm
      have hv := tab_v ht hi
      rw [B47_18_o5]
      simp only [if_pos hj, nI_clamp (show t < 2 ^ 31 by omega), tz0 t h13, tz1 t h13, tz3 t h13, tz4 t h13, nI_mul, if_pos (nI_lt hi (by omega)), if_neg (nI_ne0 hF (by omega)), nI_mod (show i < 2 ^ 31 by omega) (show fieldsN.getD t 0 < 2 ^ 31 by omega), nI_add, if_pos (j_in_nI h78 (by decide)), if_pos (j_in_nI (show fpN.getD t 0 + i < 1189 by omega) (by decide)), nI_clamp (show fpN.getD t 0 + i < 2 ^ 31 by omega), nI_clamp (show flN.getD t 0 + i % fieldsN.getD t 0 < 2 ^ 31 by omega), hv, nI_1]
      rw [j_up_fill, Nat.add_assoc])
    refine ⟨some (.int (nI (rowsN.getD t 0 * fieldsN.getD t 0))), ?_⟩
    try dsimp only at inner ⊢
    rw [B47_10_o5, if_pos (show nI t < (12 : Int32) from nI_lt (b := 12) ht (by decide))]
    refine inner.trans ?_
    rw [B47_18_o5]
    simp only [if_pos hj, nI_clamp (show t < 2 ^ 31 by omega), tz0 t h13, tz1 t h13, nI_mul, if_neg (nI_nlt (Nat.le_refl _) (show rowsN.getD t 0 * fieldsN.getD t 0 < 2 ^ 31 by omega)), nI_1, q1])
  obtain ⟨x, hx⟩ := outer o2
  try dsimp only at hx
  rw [show fpN.getD 0 0 = 0 from rfl, j_fill_zero] at hx
  refine hx.trans ?_
  rw [B47_10_o5, if_neg (show ¬ nI 12 < (12 : Int32) from nI_nlt (a := 12) (b := 12) (Nat.le_refl _) (by decide)), show fpN.getD 12 0 = 888 from rfl, fill_m0]
