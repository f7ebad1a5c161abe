/-! RULES: the words that are given, in both -/
section PARC
variable {d e : Nat} {I J : Nat → Nat → Int32} {L L' : Nat → Nat → Int64} {pa pb pu pw : Option Nat}
variable {T : Nat} {K P : Nat → Nat} {W : Nat → List Nat} {U : Nat → Nat}
def kwA : List (List Nat) := [[108, 101, 116], [116, 97, 98, 108, 101], [114, 117, 108, 101], [105, 102], [115, 117, 109], [109, 97, 120], [109, 105, 110], [97, 110, 100], [111, 114], [110, 111, 116]]
def poA : List Nat := [3, 9, 14, 17, 21, 25, 29, 33, 36, 40]
theorem kwA_ok : ∀ i, i < 10 → (∀ b, b ∈ kwA.getD i [] → isL b) ∧ 1 ≤ (kwA.getD i []).length ∧ (kwA.getD i []).length ≤ 8 := by decide +kernel
def kwB : List (List Nat) := [[108, 101, 118, 101, 108], [116, 114, 105, 109], [104, 101, 101, 108], [119, 97, 116, 101, 114], [119, 101, 105, 103, 104, 116], [114, 111, 117, 110, 100, 115], [108, 101, 110, 103, 116, 104], [98, 114, 101, 97, 100, 116, 104], [112, 108, 97, 99, 101, 100], [108, 101, 102, 116], [98, 97, 114, 115], [108, 101, 100], [101, 110, 100]]
def poB : List Nat := [5, 10, 15, 21, 28, 35, 42, 50, 57, 62, 67, 71, 75]
theorem kwB_ok : ∀ i, i < 13 → (∀ b, b ∈ kwB.getD i [] → isL b) ∧ 1 ≤ (kwB.getD i []).length ∧ (kwB.getD i []).length ≤ 8 := by decide +kernel
def kwC : List (List Nat) := [[100, 114, 97, 117, 103, 104, 116], [102, 111, 114, 99, 101], [98, 101, 110, 100], [108, 101, 118, 101, 114], [97, 114, 101, 97], [97, 120, 105, 115], [115, 101, 99, 111, 110, 100], [114, 111, 111, 109], [102, 105, 108, 108], [112, 114, 105, 99, 101], [115, 116, 97, 114, 116]]
def poC : List Nat := [7, 13, 18, 24, 29, 34, 41, 46, 51, 57, 63]
theorem kwC_ok : ∀ i, i < 11 → (∀ b, b ∈ kwC.getD i [] → isL b) ∧ 1 ≤ (kwC.getD i []).length ∧ (kwC.getD i []).length ≤ 8 := by decide +kernel
/-- the packed words of the first program -/
def kwS (L : Nat → Nat → Int64) : Prop := (∀ i, i < 10 → L 35 i = lgN (nC (kwA.getD i []))) ∧ (∀ i, i < 13 → L 36 i = lgN (nC (kwB.getD i []))) ∧ (∀ i, i < 11 → L 37 i = lgN (nC (kwC.getD i [])))
theorem kwS_l3f : kwS l3f := by
  have h1 : ∀ i, i < 10 → (pkS y_0 41).2.2 i = lgN (nC (kwA.getD i [])) := by decide +kernel
  have h2 : ∀ i, i < 13 → (pkS y_1 76).2.2 i = lgN (nC (kwB.getD i [])) := by decide +kernel
  have h3 : ∀ i, i < 11 → (pkS y_2 64).2.2 i = lgN (nC (kwC.getD i [])) := by decide +kernel
  exact ⟨h1, h2, h3⟩
theorem find_31 {n : Nat} (hn : n ≤ 72) (x : Int64) (o4 : Option Value) : ∃ r, jv d 20 0 [some (.ref 31), some (.int (nI n)), some (.long x), none, o4] [] (shC, I, L, pX pa pb pu pw) = some (some (.int r), (shC, I, L, pX pa pb pu pw)) ∧ fndI (fun i => L 31 i = x) n r := by
  have go : ∀ (t i : Nat), i + t = n → (∀ j, j < i → ¬ L 31 j = x) → ∃ r, jv d 20 3 [some (.ref 31), some (.int (nI n)), some (.long x), none, some (.int (nI i))] [] (shC, I, L, pX pa pb pu pw) = some (some (.int r), (shC, I, L, pX pa pb pu pw)) ∧ fndI (fun i => L 31 i = x) n r := by
    intro t
    induction t with
    | zero =>
      intro i hi hj
      refine ⟨-1, ?_, Or.inr ⟨fun j q => hj j (by omega), rfl⟩⟩
      rw [B20_3_a31, if_neg (nI_nlt (by omega) (by omega)), B20_34_a31]
    | succ t ih =>
      intro i hi hj
      by_cases q : L 31 i = x
      · refine ⟨nI i, ?_, Or.inl ⟨i, by omega, q, hj, rfl⟩⟩
        rw [B20_3_a31, if_pos (nI_lt (by omega) (by omega)), if_pos (show nI i < (72 : Int32) from nI_lt (b := 72) (by omega) (by decide)), if_pos (j_in_nI (by omega) (by decide)), nI_clamp (by omega), if_pos ((lcmp_e _ _).mpr q)]
      · obtain ⟨r, r1, r2⟩ := ih (i + 1) (by omega) (fun j z => by
          rcases Nat.lt_or_eq_of_le (show j ≤ i by omega) with y | y
          · exact hj j y
          · rw [y]; exact q)
        refine ⟨r, ?_, r2⟩
        rw [B20_3_a31, if_pos (nI_lt (by omega) (by omega)), if_pos (show nI i < (72 : Int32) from nI_lt (b := 72) (by omega) (by decide)), if_pos (j_in_nI (by omega) (by decide)), nI_clamp (by omega), if_neg (fun z => q ((lcmp_e _ _).mp z)), show nI i + 1 = nI (i + 1) from nI_add i 1]
        exact r1
  rw [B20_0_a31]
  exact go n 0 (by omega) (fun j hj => absurd hj (Nat.not_lt_zero _))
theorem find_34 {n : Nat} (hn : n ≤ 24) (x : Int64) (o4 : Option Value) : ∃ r, jv d 20 0 [some (.ref 34), some (.int (nI n)), some (.long x), none, o4] [] (shC, I, L, pX pa pb pu pw) = some (some (.int r), (shC, I, L, pX pa pb pu pw)) ∧ fndI (fun i => L 34 i = x) n r := by
  have go : ∀ (t i : Nat), i + t = n → (∀ j, j < i → ¬ L 34 j = x) → ∃ r, jv d 20 3 [some (.ref 34), some (.int (nI n)), some (.long x), none, some (.int (nI i))] [] (shC, I, L, pX pa pb pu pw) = some (some (.int r), (shC, I, L, pX pa pb pu pw)) ∧ fndI (fun i => L 34 i = x) n r := by
    intro t
    induction t with
    | zero =>
      intro i hi hj
      refine ⟨-1, ?_, Or.inr ⟨fun j q => hj j (by omega), rfl⟩⟩
      rw [B20_3_a34, if_neg (nI_nlt (by omega) (by omega)), B20_34_a34]
    | succ t ih =>
      intro i hi hj
      by_cases q : L 34 i = x
      · refine ⟨nI i, ?_, Or.inl ⟨i, by omega, q, hj, rfl⟩⟩
        rw [B20_3_a34, if_pos (nI_lt (by omega) (by omega)), if_pos (show nI i < (24 : Int32) from nI_lt (b := 24) (by omega) (by decide)), if_pos (j_in_nI (by omega) (by decide)), nI_clamp (by omega), if_pos ((lcmp_e _ _).mpr q)]
      · obtain ⟨r, r1, r2⟩ := ih (i + 1) (by omega) (fun j z => by
          rcases Nat.lt_or_eq_of_le (show j ≤ i by omega) with y | y
          · exact hj j y
          · rw [y]; exact q)
        refine ⟨r, ?_, r2⟩
        rw [B20_3_a34, if_pos (nI_lt (by omega) (by omega)), if_pos (show nI i < (24 : Int32) from nI_lt (b := 24) (by omega) (by decide)), if_pos (j_in_nI (by omega) (by decide)), nI_clamp (by omega), if_neg (fun z => q ((lcmp_e _ _).mp z)), show nI i + 1 = nI (i + 1) from nI_add i 1]
        exact r1
  rw [B20_0_a34]
  exact go n 0 (by omega) (fun j hj => absurd hj (Nat.not_lt_zero _))
theorem find_35 {n : Nat} (hn : n ≤ 10) (x : Int64) (o4 : Option Value) : ∃ r, jv d 20 0 [some (.ref 35), some (.int (nI n)), some (.long x), none, o4] [] (shC, I, L, pX pa pb pu pw) = some (some (.int r), (shC, I, L, pX pa pb pu pw)) ∧ fndI (fun i => L 35 i = x) n r := by
  have go : ∀ (t i : Nat), i + t = n → (∀ j, j < i → ¬ L 35 j = x) → ∃ r, jv d 20 3 [some (.ref 35), some (.int (nI n)), some (.long x), none, some (.int (nI i))] [] (shC, I, L, pX pa pb pu pw) = some (some (.int r), (shC, I, L, pX pa pb pu pw)) ∧ fndI (fun i => L 35 i = x) n r := by
    intro t
    induction t with
    | zero =>
      intro i hi hj
      refine ⟨-1, ?_, Or.inr ⟨fun j q => hj j (by omega), rfl⟩⟩
      rw [B20_3_a35, if_neg (nI_nlt (by omega) (by omega)), B20_34_a35]
    | succ t ih =>
      intro i hi hj
      by_cases q : L 35 i = x
      · refine ⟨nI i, ?_, Or.inl ⟨i, by omega, q, hj, rfl⟩⟩
        rw [B20_3_a35, if_pos (nI_lt (by omega) (by omega)), if_pos (show nI i < (10 : Int32) from nI_lt (b := 10) (by omega) (by decide)), if_pos (j_in_nI (by omega) (by decide)), nI_clamp (by omega), if_pos ((lcmp_e _ _).mpr q)]
      · obtain ⟨r, r1, r2⟩ := ih (i + 1) (by omega) (fun j z => by
          rcases Nat.lt_or_eq_of_le (show j ≤ i by omega) with y | y
          · exact hj j y
          · rw [y]; exact q)
        refine ⟨r, ?_, r2⟩
        rw [B20_3_a35, if_pos (nI_lt (by omega) (by omega)), if_pos (show nI i < (10 : Int32) from nI_lt (b := 10) (by omega) (by decide)), if_pos (j_in_nI (by omega) (by decide)), nI_clamp (by omega), if_neg (fun z => q ((lcmp_e _ _).mp z)), show nI i + 1 = nI (i + 1) from nI_add i 1]
        exact r1
  rw [B20_0_a35]
  exact go n 0 (by omega) (fun j hj => absurd hj (Nat.not_lt_zero _))
theorem find_36 {n : Nat} (hn : n ≤ 13) (x : Int64) (o4 : Option Value) : ∃ r, jv d 20 0 [some (.ref 36), some (.int (nI n)), some (.long x), none, o4] [] (shC, I, L, pX pa pb pu pw) = some (some (.int r), (shC, I, L, pX pa pb pu pw)) ∧ fndI (fun i => L 36 i = x) n r := by
  have go : ∀ (t i : Nat), i + t = n → (∀ j, j < i → ¬ L 36 j = x) → ∃ r, jv d 20 3 [some (.ref 36), some (.int (nI n)), some (.long x), none, some (.int (nI i))] [] (shC, I, L, pX pa pb pu pw) = some (some (.int r), (shC, I, L, pX pa pb pu pw)) ∧ fndI (fun i => L 36 i = x) n r := by
    intro t
    induction t with
    | zero =>
      intro i hi hj
      refine ⟨-1, ?_, Or.inr ⟨fun j q => hj j (by omega), rfl⟩⟩
      rw [B20_3_a36, if_neg (nI_nlt (by omega) (by omega)), B20_34_a36]
    | succ t ih =>
      intro i hi hj
      by_cases q : L 36 i = x
      · refine ⟨nI i, ?_, Or.inl ⟨i, by omega, q, hj, rfl⟩⟩
        rw [B20_3_a36, if_pos (nI_lt (by omega) (by omega)), if_pos (show nI i < (13 : Int32) from nI_lt (b := 13) (by omega) (by decide)), if_pos (j_in_nI (by omega) (by decide)), nI_clamp (by omega), if_pos ((lcmp_e _ _).mpr q)]
      · obtain ⟨r, r1, r2⟩ := ih (i + 1) (by omega) (fun j z => by
          rcases Nat.lt_or_eq_of_le (show j ≤ i by omega) with y | y
          · exact hj j y
          · rw [y]; exact q)
        refine ⟨r, ?_, r2⟩
        rw [B20_3_a36, if_pos (nI_lt (by omega) (by omega)), if_pos (show nI i < (13 : Int32) from nI_lt (b := 13) (by omega) (by decide)), if_pos (j_in_nI (by omega) (by decide)), nI_clamp (by omega), if_neg (fun z => q ((lcmp_e _ _).mp z)), show nI i + 1 = nI (i + 1) from nI_add i 1]
        exact r1
  rw [B20_0_a36]
  exact go n 0 (by omega) (fun j hj => absurd hj (Nat.not_lt_zero _))
theorem find_37 {n : Nat} (hn : n ≤ 11) (x : Int64) (o4 : Option Value) : ∃ r, jv d 20 0 [some (.ref 37), some (.int (nI n)), some (.long x), none, o4] [] (shC, I, L, pX pa pb pu pw) = some (some (.int r), (shC, I, L, pX pa pb pu pw)) ∧ fndI (fun i => L 37 i = x) n r := by
  have go : ∀ (t i : Nat), i + t = n → (∀ j, j < i → ¬ L 37 j = x) → ∃ r, jv d 20 3 [some (.ref 37), some (.int (nI n)), some (.long x), none, some (.int (nI i))] [] (shC, I, L, pX pa pb pu pw) = some (some (.int r), (shC, I, L, pX pa pb pu pw)) ∧ fndI (fun i => L 37 i = x) n r := by
    intro t
    induction t with
    | zero =>
      intro i hi hj
      refine ⟨-1, ?_, Or.inr ⟨fun j q => hj j (by omega), rfl⟩⟩
      rw [B20_3_a37, if_neg (nI_nlt (by omega) (by omega)), B20_34_a37]
    | succ t ih =>
      intro i hi hj
      by_cases q : L 37 i = x
      · refine ⟨nI i, ?_, Or.inl ⟨i, by omega, q, hj, rfl⟩⟩
        rw [B20_3_a37, if_pos (nI_lt (by omega) (by omega)), if_pos (show nI i < (11 : Int32) from nI_lt (b := 11) (by omega) (by decide)), if_pos (j_in_nI (by omega) (by decide)), nI_clamp (by omega), if_pos ((lcmp_e _ _).mpr q)]
      · obtain ⟨r, r1, r2⟩ := ih (i + 1) (by omega) (fun j z => by
          rcases Nat.lt_or_eq_of_le (show j ≤ i by omega) with y | y
          · exact hj j y
          · rw [y]; exact q)
        refine ⟨r, ?_, r2⟩
        rw [B20_3_a37, if_pos (nI_lt (by omega) (by omega)), if_pos (show nI i < (11 : Int32) from nI_lt (b := 11) (by omega) (by decide)), if_pos (j_in_nI (by omega) (by decide)), nI_clamp (by omega), if_neg (fun z => q ((lcmp_e _ _).mp z)), show nI i + 1 = nI (i + 1) from nI_add i 1]
        exact r1
  rw [B20_0_a37]
  exact go n 0 (by omega) (fun j hj => absurd hj (Nat.not_lt_zero _))
/-- a string of words, a blank ahead of each: how many went by, the word so far -/
def amN (y : List Int32) : Nat → Nat
  | 0 => 0
  | t + 1 => if y.getD (1 + t) 0 &&& 255 = 32 then amN y t + 1 else amN y t
def amV (y : List Int32) : Nat → Int64
  | 0 => 0
  | t + 1 => if y.getD (1 + t) 0 &&& 255 = 32 then 0 else (amV y t <<< ((8 : Int32).toInt64 &&& 63)) ||| (y.getD (1 + t) 0 &&& 255).toInt64
theorem amN_mono (y : List Int32) (u : Nat) : ∀ t, amN y u ≤ amN y (u + t) := by
  intro t
  induction t with
  | zero => exact Nat.le_refl _
  | succ t ih =>
    show _ ≤ (if y.getD (1 + (u + t)) 0 &&& 255 = 32 then amN y (u + t) + 1 else amN y (u + t))
    by_cases q : y.getD (1 + (u + t)) 0 &&& 255 = 32
    · rw [if_pos q]; omega
    · rw [if_neg q]; exact ih
theorem am_fnd {y : List Int32} {kw : List (List Nat)} {po : List Nat} {N cnt : Nat} (h1 : ∀ t, t < N → y.getD (1 + t) 0 &&& 255 = 32 → amN y t < cnt ∧ amV y t = lgN (nR (kw.getD (amN y t) []))) (h2 : ∀ i, i < cnt → po.getD i 0 < N ∧ y.getD (1 + po.getD i 0) 0 &&& 255 = 32 ∧ amN y (po.getD i 0) = i) (h3 : ∀ i, i < cnt → okW (kw.getD i [])) {w : List Nat} (hw : okW w) {r : Int32} (hr : (∃ t, t < N ∧ (y.getD (1 + t) 0 &&& 255 = 32 ∧ amV y t = lgN (nR w)) ∧ (∀ u, u < t → y.getD (1 + u) 0 &&& 255 = 32 → amV y u ≠ lgN (nR w)) ∧ r = nI (amN y t)) ∨ ((∀ u, u < N → y.getD (1 + u) 0 &&& 255 = 32 → amV y u ≠ lgN (nR w)) ∧ r = -1)) : fndI (fun i => kw.getD i [] = w) cnt r := by
  have key : ∀ i, i < cnt → kw.getD i [] = w → amV y (po.getD i 0) = lgN (nR w) := by
    intro i hi hk
    obtain ⟨a1, a2, a3⟩ := h2 i hi
    rw [(h1 _ a1 a2).2, a3, hk]
  rcases hr with ⟨t, t1, ⟨t2, t3⟩, t4, t5⟩ | ⟨t1, t2⟩
  · obtain ⟨b1, b2⟩ := h1 t t1 t2
    refine Or.inl ⟨amN y t, b1, ?_, fun j hj hk => ?_, t5⟩
    · exact (wR_inj (h3 _ b1) hw).mp (by rw [← b2, t3])
    · obtain ⟨a1, a2, a3⟩ := h2 j (by omega)
      have lt : po.getD j 0 < t := by
        rcases Nat.lt_or_ge (po.getD j 0) t with z | z
        · exact z
        · have := amN_mono y t (po.getD j 0 - t)
          rw [show t + (po.getD j 0 - t) = po.getD j 0 by omega, a3] at this
          omega
      exact t4 _ lt a2 (key j (by omega) hk)
  · refine Or.inr ⟨fun j hj hk => ?_, t2⟩
    obtain ⟨a1, a2, a3⟩ := h2 j hj
    exact t1 _ a1 a2 (key j hj hk)
theorem among_2008 {w : List Nat} (hw : okW w) (o3 o4 o5 o6 : Option Value) : ∃ r, jv e 251 0 [some (.ref 2008), some (.long (lgN (nR w))), none, o3, o4, o5, o6] [] (shR, J, L', pR) = some (some (.int r), (shR, J, L', pR)) ∧ fndI (fun i => kwA.getD i [] = w) 10 r := by
  have go : ∀ (q t : Nat), t + q = 41 → (∀ u, u < t → y_8.getD (1 + u) 0 &&& 255 = 32 → amV y_8 u ≠ lgN (nR w)) → ∃ r, jv e 251 8 [some (.ref 2008), some (.long (lgN (nR w))), none, some (.int (nI (amN y_8 t))), some (.long (amV y_8 t)), none, some (.int (nI (1 + t)))] [] (shR, J, L', pR) = some (some (.int r), (shR, J, L', pR)) ∧ ((∃ t, t < 41 ∧ (y_8.getD (1 + t) 0 &&& 255 = 32 ∧ amV y_8 t = lgN (nR w)) ∧ (∀ u, u < t → y_8.getD (1 + u) 0 &&& 255 = 32 → amV y_8 u ≠ lgN (nR w)) ∧ r = nI (amN y_8 t)) ∨ ((∀ u, u < 41 → y_8.getD (1 + u) 0 &&& 255 = 32 → amV y_8 u ≠ lgN (nR w)) ∧ r = -1)) := by
    intro q
    induction q with
    | zero =>
      intro t ht hu
      refine ⟨-1, ?_, Or.inr ⟨fun u h => hu u (by omega), rfl⟩⟩
      rw [B251_8_a2008, if_neg (show ¬ nI (1 + t) < (42 : Int32) from nI_nlt (b := 42) (by omega) (by omega))]
    | succ q ih =>
      intro t ht hu
      have c1 : (nI (1 + t)).toNatClampNeg = 1 + t := nI_clamp (by omega)
      by_cases z : y_8.getD (1 + t) 0 &&& 255 = 32
      · by_cases z2 : amV y_8 t = lgN (nR w)
        · refine ⟨nI (amN y_8 t), ?_, Or.inl ⟨t, by omega, ⟨z, z2⟩, hu, rfl⟩⟩
          rw [B251_8_a2008, if_pos (show nI (1 + t) < (42 : Int32) from nI_lt (b := 42) (by omega) (by decide)), if_pos (j_in_nI (by omega) (by decide)), c1, if_pos z, if_pos ((lcmp_e _ _).mpr z2)]
        · obtain ⟨r, r1, r2⟩ := ih (t + 1) (by omega) (fun u h hb => by
            rcases Nat.lt_or_eq_of_le (show u ≤ t by omega) with y | y
            · exact hu u y hb
            · rw [y]; exact z2)
          refine ⟨r, ?_, r2⟩
          rw [B251_8_a2008, if_pos (show nI (1 + t) < (42 : Int32) from nI_lt (b := 42) (by omega) (by decide)), if_pos (j_in_nI (by omega) (by decide)), c1, if_pos z, if_neg (fun y => z2 ((lcmp_e _ _).mp y)), B251_61_a2008, show nI (1 + t) + 1 = nI (1 + (t + 1)) from nI_add _ 1, show nI (amN y_8 t) + 1 = nI (amN y_8 (t + 1)) from (by show _ = nI (if _ then _ else _); rw [if_pos z]; exact nI_add _ 1), show (0 : Int64) = amV y_8 (t + 1) from (by show _ = (if _ then _ else _); rw [if_pos z])]
          exact r1
      · obtain ⟨r, r1, r2⟩ := ih (t + 1) (by omega) (fun u h hb => by
            rcases Nat.lt_or_eq_of_le (show u ≤ t by omega) with y | y
            · exact hu u y hb
            · rw [y] at hb; exact absurd hb z)
        refine ⟨r, ?_, r2⟩
        rw [B251_8_a2008, if_pos (show nI (1 + t) < (42 : Int32) from nI_lt (b := 42) (by omega) (by decide)), if_pos (j_in_nI (by omega) (by decide)), c1, if_neg z, if_pos (j_in_nI (by omega) (by decide)), B251_61_a2008, show nI (1 + t) + 1 = nI (1 + (t + 1)) from nI_add _ 1, show amN y_8 t = amN y_8 (t + 1) from (by show _ = (if _ then _ else _); rw [if_neg z]), show (amV y_8 t <<< ((8 : Int32).toInt64 &&& 63)) ||| (y_8.getD (1 + t) 0 &&& 255).toInt64 = amV y_8 (t + 1) from (by show _ = (if _ then _ else _); rw [if_neg z])]
        exact r1
  obtain ⟨r, r1, r2⟩ := go 41 0 (by omega) (fun u h => absurd h (Nat.not_lt_zero _))
  refine ⟨r, ?_, am_fnd (N := 41) (po := poA) (by decide +kernel) (by decide +kernel) kwA_ok hw r2⟩
  rw [B251_0_a2008]
  exact r1
theorem among_2009 {w : List Nat} (hw : okW w) (o3 o4 o5 o6 : Option Value) : ∃ r, jv e 251 0 [some (.ref 2009), some (.long (lgN (nR w))), none, o3, o4, o5, o6] [] (shR, J, L', pR) = some (some (.int r), (shR, J, L', pR)) ∧ fndI (fun i => kwB.getD i [] = w) 13 r := by
  have go : ∀ (q t : Nat), t + q = 76 → (∀ u, u < t → y_9.getD (1 + u) 0 &&& 255 = 32 → amV y_9 u ≠ lgN (nR w)) → ∃ r, jv e 251 8 [some (.ref 2009), some (.long (lgN (nR w))), none, some (.int (nI (amN y_9 t))), some (.long (amV y_9 t)), none, some (.int (nI (1 + t)))] [] (shR, J, L', pR) = some (some (.int r), (shR, J, L', pR)) ∧ ((∃ t, t < 76 ∧ (y_9.getD (1 + t) 0 &&& 255 = 32 ∧ amV y_9 t = lgN (nR w)) ∧ (∀ u, u < t → y_9.getD (1 + u) 0 &&& 255 = 32 → amV y_9 u ≠ lgN (nR w)) ∧ r = nI (amN y_9 t)) ∨ ((∀ u, u < 76 → y_9.getD (1 + u) 0 &&& 255 = 32 → amV y_9 u ≠ lgN (nR w)) ∧ r = -1)) := by
    intro q
    induction q with
    | zero =>
      intro t ht hu
      refine ⟨-1, ?_, Or.inr ⟨fun u h => hu u (by omega), rfl⟩⟩
      rw [B251_8_a2009, if_neg (show ¬ nI (1 + t) < (77 : Int32) from nI_nlt (b := 77) (by omega) (by omega))]
    | succ q ih =>
      intro t ht hu
      have c1 : (nI (1 + t)).toNatClampNeg = 1 + t := nI_clamp (by omega)
      by_cases z : y_9.getD (1 + t) 0 &&& 255 = 32
      · by_cases z2 : amV y_9 t = lgN (nR w)
        · refine ⟨nI (amN y_9 t), ?_, Or.inl ⟨t, by omega, ⟨z, z2⟩, hu, rfl⟩⟩
          rw [B251_8_a2009, if_pos (show nI (1 + t) < (77 : Int32) from nI_lt (b := 77) (by omega) (by decide)), if_pos (j_in_nI (by omega) (by decide)), c1, if_pos z, if_pos ((lcmp_e _ _).mpr z2)]
        · obtain ⟨r, r1, r2⟩ := ih (t + 1) (by omega) (fun u h hb => by
            rcases Nat.lt_or_eq_of_le (show u ≤ t by omega) with y | y
            · exact hu u y hb
            · rw [y]; exact z2)
          refine ⟨r, ?_, r2⟩
          rw [B251_8_a2009, if_pos (show nI (1 + t) < (77 : Int32) from nI_lt (b := 77) (by omega) (by decide)), if_pos (j_in_nI (by omega) (by decide)), c1, if_pos z, if_neg (fun y => z2 ((lcmp_e _ _).mp y)), B251_61_a2009, show nI (1 + t) + 1 = nI (1 + (t + 1)) from nI_add _ 1, show nI (amN y_9 t) + 1 = nI (amN y_9 (t + 1)) from (by show _ = nI (if _ then _ else _); rw [if_pos z]; exact nI_add _ 1), show (0 : Int64) = amV y_9 (t + 1) from (by show _ = (if _ then _ else _); rw [if_pos z])]
          exact r1
      · obtain ⟨r, r1, r2⟩ := ih (t + 1) (by omega) (fun u h hb => by
            rcases Nat.lt_or_eq_of_le (show u ≤ t by omega) with y | y
            · exact hu u y hb
            · rw [y] at hb; exact absurd hb z)
        refine ⟨r, ?_, r2⟩
        rw [B251_8_a2009, if_pos (show nI (1 + t) < (77 : Int32) from nI_lt (b := 77) (by omega) (by decide)), if_pos (j_in_nI (by omega) (by decide)), c1, if_neg z, if_pos (j_in_nI (by omega) (by decide)), B251_61_a2009, show nI (1 + t) + 1 = nI (1 + (t + 1)) from nI_add _ 1, show amN y_9 t = amN y_9 (t + 1) from (by show _ = (if _ then _ else _); rw [if_neg z]), show (amV y_9 t <<< ((8 : Int32).toInt64 &&& 63)) ||| (y_9.getD (1 + t) 0 &&& 255).toInt64 = amV y_9 (t + 1) from (by show _ = (if _ then _ else _); rw [if_neg z])]
        exact r1
  obtain ⟨r, r1, r2⟩ := go 76 0 (by omega) (fun u h => absurd h (Nat.not_lt_zero _))
  refine ⟨r, ?_, am_fnd (N := 76) (po := poB) (by decide +kernel) (by decide +kernel) kwB_ok hw r2⟩
  rw [B251_0_a2009]
  exact r1
theorem among_2010 {w : List Nat} (hw : okW w) (o3 o4 o5 o6 : Option Value) : ∃ r, jv e 251 0 [some (.ref 2010), some (.long (lgN (nR w))), none, o3, o4, o5, o6] [] (shR, J, L', pR) = some (some (.int r), (shR, J, L', pR)) ∧ fndI (fun i => kwC.getD i [] = w) 11 r := by
  have go : ∀ (q t : Nat), t + q = 64 → (∀ u, u < t → y_10.getD (1 + u) 0 &&& 255 = 32 → amV y_10 u ≠ lgN (nR w)) → ∃ r, jv e 251 8 [some (.ref 2010), some (.long (lgN (nR w))), none, some (.int (nI (amN y_10 t))), some (.long (amV y_10 t)), none, some (.int (nI (1 + t)))] [] (shR, J, L', pR) = some (some (.int r), (shR, J, L', pR)) ∧ ((∃ t, t < 64 ∧ (y_10.getD (1 + t) 0 &&& 255 = 32 ∧ amV y_10 t = lgN (nR w)) ∧ (∀ u, u < t → y_10.getD (1 + u) 0 &&& 255 = 32 → amV y_10 u ≠ lgN (nR w)) ∧ r = nI (amN y_10 t)) ∨ ((∀ u, u < 64 → y_10.getD (1 + u) 0 &&& 255 = 32 → amV y_10 u ≠ lgN (nR w)) ∧ r = -1)) := by
    intro q
    induction q with
    | zero =>
      intro t ht hu
      refine ⟨-1, ?_, Or.inr ⟨fun u h => hu u (by omega), rfl⟩⟩
      rw [B251_8_a2010, if_neg (show ¬ nI (1 + t) < (65 : Int32) from nI_nlt (b := 65) (by omega) (by omega))]
    | succ q ih =>
      intro t ht hu
      have c1 : (nI (1 + t)).toNatClampNeg = 1 + t := nI_clamp (by omega)
      by_cases z : y_10.getD (1 + t) 0 &&& 255 = 32
      · by_cases z2 : amV y_10 t = lgN (nR w)
        · refine ⟨nI (amN y_10 t), ?_, Or.inl ⟨t, by omega, ⟨z, z2⟩, hu, rfl⟩⟩
          rw [B251_8_a2010, if_pos (show nI (1 + t) < (65 : Int32) from nI_lt (b := 65) (by omega) (by decide)), if_pos (j_in_nI (by omega) (by decide)), c1, if_pos z, if_pos ((lcmp_e _ _).mpr z2)]
        · obtain ⟨r, r1, r2⟩ := ih (t + 1) (by omega) (fun u h hb => by
            rcases Nat.lt_or_eq_of_le (show u ≤ t by omega) with y | y
            · exact hu u y hb
            · rw [y]; exact z2)
          refine ⟨r, ?_, r2⟩
          rw [B251_8_a2010, if_pos (show nI (1 + t) < (65 : Int32) from nI_lt (b := 65) (by omega) (by decide)), if_pos (j_in_nI (by omega) (by decide)), c1, if_pos z, if_neg (fun y => z2 ((lcmp_e _ _).mp y)), B251_61_a2010, show nI (1 + t) + 1 = nI (1 + (t + 1)) from nI_add _ 1, show nI (amN y_10 t) + 1 = nI (amN y_10 (t + 1)) from (by show _ = nI (if _ then _ else _); rw [if_pos z]; exact nI_add _ 1), show (0 : Int64) = amV y_10 (t + 1) from (by show _ = (if _ then _ else _); rw [if_pos z])]
          exact r1
      · obtain ⟨r, r1, r2⟩ := ih (t + 1) (by omega) (fun u h hb => by
            rcases Nat.lt_or_eq_of_le (show u ≤ t by omega) with y | y
            · exact hu u y hb
            · rw [y] at hb; exact absurd hb z)
        refine ⟨r, ?_, r2⟩
        rw [B251_8_a2010, if_pos (show nI (1 + t) < (65 : Int32) from nI_lt (b := 65) (by omega) (by decide)), if_pos (j_in_nI (by omega) (by decide)), c1, if_neg z, if_pos (j_in_nI (by omega) (by decide)), B251_61_a2010, show nI (1 + t) + 1 = nI (1 + (t + 1)) from nI_add _ 1, show amN y_10 t = amN y_10 (t + 1) from (by show _ = (if _ then _ else _); rw [if_neg z]), show (amV y_10 t <<< ((8 : Int32).toInt64 &&& 63)) ||| (y_10.getD (1 + t) 0 &&& 255).toInt64 = amV y_10 (t + 1) from (by show _ = (if _ then _ else _); rw [if_neg z])]
        exact r1
  obtain ⟨r, r1, r2⟩ := go 64 0 (by omega) (fun u h => absurd h (Nat.not_lt_zero _))
  refine ⟨r, ?_, am_fnd (N := 64) (po := poC) (by decide +kernel) (by decide +kernel) kwC_ok hw r2⟩
  rw [B251_0_a2010]
  exact r1
def wdS (y : List Int32) : Nat → Int64
  | 0 => 0
  | t + 1 => (wdS y t <<< ((8 : Int32).toInt64 &&& 63)) ||| (y.getD t 0 &&& 255).toInt64
theorem nowkey_c {d : Nat} (hS : kwS L) (h : tkS T K P W U I L J L') {now : Nat} (hn : now ≤ T) (h0 : I 27 0 = 0) (h7 : I 27 7 = nI now) {k : Nat} (hk : k < 10) : jv (d + 1) 9 0 [some (.ref 27), some (.int (nI k))] [] (shC, I, L, pX pa pb pu pw) = some (some (.int (if K now = 97 ∧ W now = kwA.getD k [] then 1 else 0)), (shC, I, L, pX pa pb pu pw)) := by
  have hT := h.1
  rw [B9_0, show (97 : Int32) = nI 97 from rfl, jgo_some (d := d) rfl (now_c h hn h0 h7 (k := 97) (by decide))]
  dsimp only [Option.toList_some, Option.toList_none, List.cons_append, List.nil_append]
  rw [B9_6]
  by_cases q : K now = 97
  · have lt := h.lt hn q (by decide)
    obtain ⟨w1, w2, w3⟩ := h.2.2.2.2.2.1 now lt q
    rw [if_pos q, if_neg (by decide), h7, if_pos (j_in_nI (by omega) (by decide)), if_pos (j_in_nI hk (by decide)), nI_clamp (by omega), nI_clamp (show k < 2 ^ 31 by omega), w2, hS.1 k hk]
    by_cases z : W now = kwA.getD k []
    · rw [if_pos ((lcmp_e _ _).mpr (by rw [z])), B9_33, if_pos bl_1, if_pos ⟨q, z⟩]
    · rw [if_neg (fun y => z ((wC_inj w1 (kwA_ok k hk)).mp ((lcmp_e _ _).mp y))), B9_32, B9_33, if_pos bl_0, if_neg (fun y => z y.2)]
  · rw [if_neg q, if_pos rfl, B9_32, B9_33, if_pos bl_0, if_neg (fun y => q y.1)]
theorem nowkey_cf {d : Nat} (h0 : I 27 0 ≠ 0) (k : Int32) : jv (d + 1) 9 0 [some (.ref 27), some (.int k)] [] (shC, I, L, pX pa pb pu pw) = some (some (.int 0), (shC, I, L, pX pa pb pu pw)) := by
  rw [B9_0, jgo_some (d := d) rfl (now_cf h0 _)]
  dsimp only [Option.toList_some, Option.toList_none, List.cons_append, List.nil_append]
  rw [B9_6, if_pos rfl, B9_32, B9_33, if_pos bl_0]
theorem key_c {d : Nat} (hS : kwS L) (h : tkS T K P W U I L J L') {now : Nat} (hn : now ≤ T) (h7 : I 27 7 = nI now) (hK : K now = 97) : ∃ r, jv (d + 1) 10 0 [some (.ref 27)] [] (shC, I, L, pX pa pb pu pw) = some (some (.int r), (shC, I, L, pX pa pb pu pw)) ∧ fndI (fun i => kwA.getD i [] = W now) 10 r := by
  have hT := h.1
  have lt := h.lt hn hK (by decide)
  obtain ⟨w1, w2, w3⟩ := h.2.2.2.2.2.1 now lt hK
  obtain ⟨r, r1, r2⟩ := find_35 (d := d) (I := I) (L := L) (pa := pa) (pb := pb) (pu := pu) (pw := pw) (n := 10) (by decide) (lgN (nC (W now))) none
  refine ⟨r, ?_, ?_⟩
  · rw [B10_0, h7, if_pos (j_in_nI (by omega) (by decide)), nI_clamp (by omega), w2, show (10 : Int32) = nI 10 from rfl, jgo_some (d := d) rfl r1]
    dsimp only [Option.toList_some, Option.toList_none, List.cons_append, List.nil_append]
    rw [B10_18]
  · rcases r2 with ⟨i, i1, i2, i3, i4⟩ | ⟨i1, i2⟩
    · refine Or.inl ⟨i, i1, ?_, fun j hj hk => i3 j hj ?_, i4⟩
      · exact (wC_inj (kwA_ok i i1) w1).mp (by rw [← hS.1 i i1]; exact i2)
      · show L 35 j = _
        rw [hS.1 j (by omega)]; exact (wC_inj (kwA_ok j (by omega)) w1).mpr hk
    · refine Or.inr ⟨fun j hj hk => i1 j hj ?_, i2⟩
      show L 35 j = _
      rw [hS.1 j hj]; exact (wC_inj (kwA_ok j hj) w1).mpr hk
theorem word_2005 (o1 o2 o3 : Option Value) : jv e 250 0 [some (.ref 2005), o1, o2, o3] [] (shR, J, L', pR) = some (some (.long (lgN (nR (kwA.getD 0 [])))), (shR, J, L', pR)) := by
  have key := j_run (fun i => jv e 250 4 [some (.ref 2005), some (.long (wdS y_5 i)), none, some (.int (nI i))] [] (shR, J, L', pR)) 3 (fun i hi => by
    show jv e 250 4 _ _ _ = jv e 250 4 _ _ _
    rw [B250_4_a2005, if_pos (show nI i < (3 : Int32) from nI_lt (b := 3) hi (by decide)), if_pos (j_in_nI hi (by decide)), nI_clamp (by omega), show nI i + 1 = nI (i + 1) from nI_add i 1]
    rfl)
  rw [B250_0_a2005]
  refine Eq.trans key ?_
  show jv e 250 4 _ _ _ = _
  rw [B250_4_a2005, if_neg (by decide), show wdS y_5 3 = lgN (nR (kwA.getD 0 [])) by decide +kernel]
theorem isw_2005 {e : Nat} (h : tkS T K P W U I L J L') {now : Nat} (hn : now ≤ T) (h7 : J 0 28 = nI now) : jv (e + 1) 259 0 [some (.ref 0), some (.ref 2005)] [] (shR, J, L', pR) = some (some (.int (if K now = 97 ∧ W now = kwA.getD 0 [] then 1 else 0)), (shR, J, L', pR)) := by
  have hT := h.1
  rw [B259_0_a2005, show (1 : Int32) = nI (kR 97) from rfl, jgo_some (d := e) rfl (is_r h hn h7 (k := 97) (by decide))]
  dsimp only [Option.toList_some, Option.toList_none, List.cons_append, List.nil_append]
  rw [B259_5_a2005]
  by_cases q : K now = 97
  · have lt := h.lt hn q (by decide)
    obtain ⟨w1, w2, w3⟩ := h.2.2.2.2.2.1 now lt q
    rw [if_pos q, if_neg (by decide), h7, if_pos (j_in_nI (by omega) (by decide)), nI_clamp (by omega), w3, jgo_some (d := e) rfl (word_2005 _ _ _)]
    dsimp only [Option.toList_some, Option.toList_none, List.cons_append, List.nil_append]
    rw [B259_21_a2005]
    by_cases z : W now = kwA.getD 0 []
    · rw [if_pos ((lcmp_e _ _).mpr (by rw [z])), B259_30_a2005, if_pos bl_1, if_pos ⟨q, z⟩]; rfl
    · rw [if_neg (fun y => z ((wR_inj w1 (kwA_ok 0 (by decide))).mp ((lcmp_e _ _).mp y))), B259_29_a2005, B259_30_a2005, if_pos bl_0, if_neg (fun y => z y.2)]
  · rw [if_neg q, if_pos rfl, B259_29_a2005, B259_30_a2005, if_pos bl_0, if_neg (fun y => q y.1)]
theorem word_2006 (o1 o2 o3 : Option Value) : jv e 250 0 [some (.ref 2006), o1, o2, o3] [] (shR, J, L', pR) = some (some (.long (lgN (nR (kwA.getD 1 [])))), (shR, J, L', pR)) := by
  have key := j_run (fun i => jv e 250 4 [some (.ref 2006), some (.long (wdS y_6 i)), none, some (.int (nI i))] [] (shR, J, L', pR)) 5 (fun i hi => by
    show jv e 250 4 _ _ _ = jv e 250 4 _ _ _
    rw [B250_4_a2006, if_pos (show nI i < (5 : Int32) from nI_lt (b := 5) hi (by decide)), if_pos (j_in_nI hi (by decide)), nI_clamp (by omega), show nI i + 1 = nI (i + 1) from nI_add i 1]
    rfl)
  rw [B250_0_a2006]
  refine Eq.trans key ?_
  show jv e 250 4 _ _ _ = _
  rw [B250_4_a2006, if_neg (by decide), show wdS y_6 5 = lgN (nR (kwA.getD 1 [])) by decide +kernel]
theorem isw_2006 {e : Nat} (h : tkS T K P W U I L J L') {now : Nat} (hn : now ≤ T) (h7 : J 0 28 = nI now) : jv (e + 1) 259 0 [some (.ref 0), some (.ref 2006)] [] (shR, J, L', pR) = some (some (.int (if K now = 97 ∧ W now = kwA.getD 1 [] then 1 else 0)), (shR, J, L', pR)) := by
  have hT := h.1
  rw [B259_0_a2006, show (1 : Int32) = nI (kR 97) from rfl, jgo_some (d := e) rfl (is_r h hn h7 (k := 97) (by decide))]
  dsimp only [Option.toList_some, Option.toList_none, List.cons_append, List.nil_append]
  rw [B259_5_a2006]
  by_cases q : K now = 97
  · have lt := h.lt hn q (by decide)
    obtain ⟨w1, w2, w3⟩ := h.2.2.2.2.2.1 now lt q
    rw [if_pos q, if_neg (by decide), h7, if_pos (j_in_nI (by omega) (by decide)), nI_clamp (by omega), w3, jgo_some (d := e) rfl (word_2006 _ _ _)]
    dsimp only [Option.toList_some, Option.toList_none, List.cons_append, List.nil_append]
    rw [B259_21_a2006]
    by_cases z : W now = kwA.getD 1 []
    · rw [if_pos ((lcmp_e _ _).mpr (by rw [z])), B259_30_a2006, if_pos bl_1, if_pos ⟨q, z⟩]; rfl
    · rw [if_neg (fun y => z ((wR_inj w1 (kwA_ok 1 (by decide))).mp ((lcmp_e _ _).mp y))), B259_29_a2006, B259_30_a2006, if_pos bl_0, if_neg (fun y => z y.2)]
  · rw [if_neg q, if_pos rfl, B259_29_a2006, B259_30_a2006, if_pos bl_0, if_neg (fun y => q y.1)]
theorem word_2007 (o1 o2 o3 : Option Value) : jv e 250 0 [some (.ref 2007), o1, o2, o3] [] (shR, J, L', pR) = some (some (.long (lgN (nR (kwA.getD 2 [])))), (shR, J, L', pR)) := by
  have key := j_run (fun i => jv e 250 4 [some (.ref 2007), some (.long (wdS y_7 i)), none, some (.int (nI i))] [] (shR, J, L', pR)) 4 (fun i hi => by
    show jv e 250 4 _ _ _ = jv e 250 4 _ _ _
    rw [B250_4_a2007, if_pos (show nI i < (4 : Int32) from nI_lt (b := 4) hi (by decide)), if_pos (j_in_nI hi (by decide)), nI_clamp (by omega), show nI i + 1 = nI (i + 1) from nI_add i 1]
    rfl)
  rw [B250_0_a2007]
  refine Eq.trans key ?_
  show jv e 250 4 _ _ _ = _
  rw [B250_4_a2007, if_neg (by decide), show wdS y_7 4 = lgN (nR (kwA.getD 2 [])) by decide +kernel]
theorem isw_2007 {e : Nat} (h : tkS T K P W U I L J L') {now : Nat} (hn : now ≤ T) (h7 : J 0 28 = nI now) : jv (e + 1) 259 0 [some (.ref 0), some (.ref 2007)] [] (shR, J, L', pR) = some (some (.int (if K now = 97 ∧ W now = kwA.getD 2 [] then 1 else 0)), (shR, J, L', pR)) := by
  have hT := h.1
  rw [B259_0_a2007, show (1 : Int32) = nI (kR 97) from rfl, jgo_some (d := e) rfl (is_r h hn h7 (k := 97) (by decide))]
  dsimp only [Option.toList_some, Option.toList_none, List.cons_append, List.nil_append]
  rw [B259_5_a2007]
  by_cases q : K now = 97
  · have lt := h.lt hn q (by decide)
    obtain ⟨w1, w2, w3⟩ := h.2.2.2.2.2.1 now lt q
    rw [if_pos q, if_neg (by decide), h7, if_pos (j_in_nI (by omega) (by decide)), nI_clamp (by omega), w3, jgo_some (d := e) rfl (word_2007 _ _ _)]
    dsimp only [Option.toList_some, Option.toList_none, List.cons_append, List.nil_append]
    rw [B259_21_a2007]
    by_cases z : W now = kwA.getD 2 []
    · rw [if_pos ((lcmp_e _ _).mpr (by rw [z])), B259_30_a2007, if_pos bl_1, if_pos ⟨q, z⟩]; rfl
    · rw [if_neg (fun y => z ((wR_inj w1 (kwA_ok 2 (by decide))).mp ((lcmp_e _ _).mp y))), B259_29_a2007, B259_30_a2007, if_pos bl_0, if_neg (fun y => z y.2)]
  · rw [if_neg q, if_pos rfl, B259_29_a2007, B259_30_a2007, if_pos bl_0, if_neg (fun y => q y.1)]
theorem word_2011 (o1 o2 o3 : Option Value) : jv e 250 0 [some (.ref 2011), o1, o2, o3] [] (shR, J, L', pR) = some (some (.long (lgN (nR (kwA.getD 9 [])))), (shR, J, L', pR)) := by
  have key := j_run (fun i => jv e 250 4 [some (.ref 2011), some (.long (wdS y_11 i)), none, some (.int (nI i))] [] (shR, J, L', pR)) 3 (fun i hi => by
    show jv e 250 4 _ _ _ = jv e 250 4 _ _ _
    rw [B250_4_a2011, if_pos (show nI i < (3 : Int32) from nI_lt (b := 3) hi (by decide)), if_pos (j_in_nI hi (by decide)), nI_clamp (by omega), show nI i + 1 = nI (i + 1) from nI_add i 1]
    rfl)
  rw [B250_0_a2011]
  refine Eq.trans key ?_
  show jv e 250 4 _ _ _ = _
  rw [B250_4_a2011, if_neg (by decide), show wdS y_11 3 = lgN (nR (kwA.getD 9 [])) by decide +kernel]
theorem isw_2011 {e : Nat} (h : tkS T K P W U I L J L') {now : Nat} (hn : now ≤ T) (h7 : J 0 28 = nI now) : jv (e + 1) 259 0 [some (.ref 0), some (.ref 2011)] [] (shR, J, L', pR) = some (some (.int (if K now = 97 ∧ W now = kwA.getD 9 [] then 1 else 0)), (shR, J, L', pR)) := by
  have hT := h.1
  rw [B259_0_a2011, show (1 : Int32) = nI (kR 97) from rfl, jgo_some (d := e) rfl (is_r h hn h7 (k := 97) (by decide))]
  dsimp only [Option.toList_some, Option.toList_none, List.cons_append, List.nil_append]
  rw [B259_5_a2011]
  by_cases q : K now = 97
  · have lt := h.lt hn q (by decide)
    obtain ⟨w1, w2, w3⟩ := h.2.2.2.2.2.1 now lt q
    rw [if_pos q, if_neg (by decide), h7, if_pos (j_in_nI (by omega) (by decide)), nI_clamp (by omega), w3, jgo_some (d := e) rfl (word_2011 _ _ _)]
    dsimp only [Option.toList_some, Option.toList_none, List.cons_append, List.nil_append]
    rw [B259_21_a2011]
    by_cases z : W now = kwA.getD 9 []
    · rw [if_pos ((lcmp_e _ _).mpr (by rw [z])), B259_30_a2011, if_pos bl_1, if_pos ⟨q, z⟩]; rfl
    · rw [if_neg (fun y => z ((wR_inj w1 (kwA_ok 9 (by decide))).mp ((lcmp_e _ _).mp y))), B259_29_a2011, B259_30_a2011, if_pos bl_0, if_neg (fun y => z y.2)]
  · rw [if_neg q, if_pos rfl, B259_29_a2011, B259_30_a2011, if_pos bl_0, if_neg (fun y => q y.1)]
theorem word_2012 (o1 o2 o3 : Option Value) : jv e 250 0 [some (.ref 2012), o1, o2, o3] [] (shR, J, L', pR) = some (some (.long (lgN (nR (kwA.getD 7 [])))), (shR, J, L', pR)) := by
  have key := j_run (fun i => jv e 250 4 [some (.ref 2012), some (.long (wdS y_12 i)), none, some (.int (nI i))] [] (shR, J, L', pR)) 3 (fun i hi => by
    show jv e 250 4 _ _ _ = jv e 250 4 _ _ _
    rw [B250_4_a2012, if_pos (show nI i < (3 : Int32) from nI_lt (b := 3) hi (by decide)), if_pos (j_in_nI hi (by decide)), nI_clamp (by omega), show nI i + 1 = nI (i + 1) from nI_add i 1]
    rfl)
  rw [B250_0_a2012]
  refine Eq.trans key ?_
  show jv e 250 4 _ _ _ = _
  rw [B250_4_a2012, if_neg (by decide), show wdS y_12 3 = lgN (nR (kwA.getD 7 [])) by decide +kernel]
theorem isw_2012 {e : Nat} (h : tkS T K P W U I L J L') {now : Nat} (hn : now ≤ T) (h7 : J 0 28 = nI now) : jv (e + 1) 259 0 [some (.ref 0), some (.ref 2012)] [] (shR, J, L', pR) = some (some (.int (if K now = 97 ∧ W now = kwA.getD 7 [] then 1 else 0)), (shR, J, L', pR)) := by
  have hT := h.1
  rw [B259_0_a2012, show (1 : Int32) = nI (kR 97) from rfl, jgo_some (d := e) rfl (is_r h hn h7 (k := 97) (by decide))]
  dsimp only [Option.toList_some, Option.toList_none, List.cons_append, List.nil_append]
  rw [B259_5_a2012]
  by_cases q : K now = 97
  · have lt := h.lt hn q (by decide)
    obtain ⟨w1, w2, w3⟩ := h.2.2.2.2.2.1 now lt q
    rw [if_pos q, if_neg (by decide), h7, if_pos (j_in_nI (by omega) (by decide)), nI_clamp (by omega), w3, jgo_some (d := e) rfl (word_2012 _ _ _)]
    dsimp only [Option.toList_some, Option.toList_none, List.cons_append, List.nil_append]
    rw [B259_21_a2012]
    by_cases z : W now = kwA.getD 7 []
    · rw [if_pos ((lcmp_e _ _).mpr (by rw [z])), B259_30_a2012, if_pos bl_1, if_pos ⟨q, z⟩]; rfl
    · rw [if_neg (fun y => z ((wR_inj w1 (kwA_ok 7 (by decide))).mp ((lcmp_e _ _).mp y))), B259_29_a2012, B259_30_a2012, if_pos bl_0, if_neg (fun y => z y.2)]
  · rw [if_neg q, if_pos rfl, B259_29_a2012, B259_30_a2012, if_pos bl_0, if_neg (fun y => q y.1)]
theorem word_2013 (o1 o2 o3 : Option Value) : jv e 250 0 [some (.ref 2013), o1, o2, o3] [] (shR, J, L', pR) = some (some (.long (lgN (nR (kwA.getD 8 [])))), (shR, J, L', pR)) := by
  have key := j_run (fun i => jv e 250 4 [some (.ref 2013), some (.long (wdS y_13 i)), none, some (.int (nI i))] [] (shR, J, L', pR)) 2 (fun i hi => by
    show jv e 250 4 _ _ _ = jv e 250 4 _ _ _
    rw [B250_4_a2013, if_pos (show nI i < (2 : Int32) from nI_lt (b := 2) hi (by decide)), if_pos (j_in_nI hi (by decide)), nI_clamp (by omega), show nI i + 1 = nI (i + 1) from nI_add i 1]
    rfl)
  rw [B250_0_a2013]
  refine Eq.trans key ?_
  show jv e 250 4 _ _ _ = _
  rw [B250_4_a2013, if_neg (by decide), show wdS y_13 2 = lgN (nR (kwA.getD 8 [])) by decide +kernel]
theorem isw_2013 {e : Nat} (h : tkS T K P W U I L J L') {now : Nat} (hn : now ≤ T) (h7 : J 0 28 = nI now) : jv (e + 1) 259 0 [some (.ref 0), some (.ref 2013)] [] (shR, J, L', pR) = some (some (.int (if K now = 97 ∧ W now = kwA.getD 8 [] then 1 else 0)), (shR, J, L', pR)) := by
  have hT := h.1
  rw [B259_0_a2013, show (1 : Int32) = nI (kR 97) from rfl, jgo_some (d := e) rfl (is_r h hn h7 (k := 97) (by decide))]
  dsimp only [Option.toList_some, Option.toList_none, List.cons_append, List.nil_append]
  rw [B259_5_a2013]
  by_cases q : K now = 97
  · have lt := h.lt hn q (by decide)
    obtain ⟨w1, w2, w3⟩ := h.2.2.2.2.2.1 now lt q
    rw [if_pos q, if_neg (by decide), h7, if_pos (j_in_nI (by omega) (by decide)), nI_clamp (by omega), w3, jgo_some (d := e) rfl (word_2013 _ _ _)]
    dsimp only [Option.toList_some, Option.toList_none, List.cons_append, List.nil_append]
    rw [B259_21_a2013]
    by_cases z : W now = kwA.getD 8 []
    · rw [if_pos ((lcmp_e _ _).mpr (by rw [z])), B259_30_a2013, if_pos bl_1, if_pos ⟨q, z⟩]; rfl
    · rw [if_neg (fun y => z ((wR_inj w1 (kwA_ok 8 (by decide))).mp ((lcmp_e _ _).mp y))), B259_29_a2013, B259_30_a2013, if_pos bl_0, if_neg (fun y => z y.2)]
  · rw [if_neg q, if_pos rfl, B259_29_a2013, B259_30_a2013, if_pos bl_0, if_neg (fun y => q y.1)]
end PARC
