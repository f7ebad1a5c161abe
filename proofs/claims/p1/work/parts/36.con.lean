/-! THE CONSTRUCTORS: the class -/
theorem va_z32 (n : Nat) : va_up (fun (_ _ : Nat) => (0 : Int32)) n (fun _ => 0) = fun _ _ => 0 := va_up_same _ _
theorem va_z64 (n : Nat) : va_up (fun (_ _ : Nat) => (0 : Int64)) n (fun _ => 0) = fun _ _ => 0 := va_up_same _ _
theorem va_zt {α : Type} {f : Nat → α} {n : Nat} {g : α} (h : f n = g) : va_up f n g = f := by rw [← h, va_up_same]
/-- the words of a list, packed -/
def pkS (y : List Int32) : Nat → Int64 × Nat × (Nat → Int64)
  | 0 => (0, 0, fun _ => 0)
  | i + 1 => if y.getD i 0 &&& 255 = 32 then (0, (pkS y i).2.1 + 1, va_up (pkS y i).2.2 (pkS y i).2.1 (pkS y i).1) else ((pkS y i).1 * 27 + (y.getD i 0 &&& 255).toInt64 - 97 + 1, (pkS y i).2.1, (pkS y i).2.2)
def pkN (y : List Int32) : Nat → Nat
  | 0 => 0
  | i + 1 => if y.getD i 0 &&& 255 = 32 then pkN y i + 1 else pkN y i
theorem pkS_N (y : List Int32) (i : Nat) : (pkS y i).2.1 = pkN y i := by
  induction i with
  | zero => rfl
  | succ i ih =>
    simp only [pkS, pkN]
    split <;> simp only [ih]
theorem packed_35 {d : Nat} (I : Nat → Nat → Int32) (L : Nat → Nat → Int64) (P : Nat → Nat → Option Nat) (o2 o3 o4 o5 o6 : Option Value) : jv d 1 0 [some (.ref 2000), some (.int 10), o2, o3, o4, o5, o6] [] (shC.take 35, I, L, P) = some (some (.ref 35), (shC.take 36, I, va_up L 35 (pkS y_0 41).2.2, P)) := by
  have hN : ∀ i, i < 41 → pkN y_0 i < 10 := by decide +kernel
  have hup : ∀ (f g : Nat → Int64) (k : Nat) (v : Int64), j_up (va_up L 35 f) 35 k v = va_up L 35 (va_up f k v) := by
    intro f g k v
    unfold j_up
    rw [va_up_self, va_up_up]
  have key := j_run (fun i => jv d 1 12 [some (.ref 2000), some (.int 10), some (.ref 35), some (.long (pkS y_0 i).1), none, some (.int (nI (pkS y_0 i).2.1)), some (.int (nI i))] [] (shC.take 36, I, va_up L 35 (pkS y_0 i).2.2, P)) 41 (fun i hi => by
    have hp : (pkS y_0 i).2.1 < 10 := by rw [pkS_N]; exact hN i hi
    have c1 : nI i < (41 : Int32) := nI_lt (b := 41) hi (by decide)
    have c2 : nI (pkS y_0 i).2.1 < (10 : Int32) := nI_lt (b := 10) hp (by decide)
    rw [B1_12_k35, if_pos c1, if_pos c2, if_pos (j_in_nI hi (by decide)), nI_clamp (show i < 2 ^ 31 by omega)]
    by_cases hc : y_0.getD i 0 &&& 255 = 32
    · rw [if_pos hc, if_pos (j_in_nI hp (by decide)), B1_71_k35, nI_clamp (show (pkS y_0 i).2.1 < 2 ^ 31 by omega), hup _ (fun _ => 0), nI_1, nI_1]
      simp only [pkS, if_pos hc]
    · rw [if_neg hc, if_pos (j_in_nI hi (by decide)), B1_71_k35, nI_1]
      simp only [pkS, if_neg hc])
  rw [K1_35]
  refine key.trans ?_
  rw [B1_12_k35, if_neg (show ¬ nI 41 < (41 : Int32) from nI_nlt (a := 41) (b := 41) (Nat.le_refl _) (by decide))]
theorem packed_36 {d : Nat} (I : Nat → Nat → Int32) (L : Nat → Nat → Int64) (P : Nat → Nat → Option Nat) (o2 o3 o4 o5 o6 : Option Value) : jv d 1 0 [some (.ref 2001), some (.int 13), o2, o3, o4, o5, o6] [] (shC.take 36, I, L, P) = some (some (.ref 36), (shC.take 37, I, va_up L 36 (pkS y_1 76).2.2, P)) := by
  have hN : ∀ i, i < 76 → pkN y_1 i < 13 := by decide +kernel
  have hup : ∀ (f g : Nat → Int64) (k : Nat) (v : Int64), j_up (va_up L 36 f) 36 k v = va_up L 36 (va_up f k v) := by
    intro f g k v
    unfold j_up
    rw [va_up_self, va_up_up]
  have key := j_run (fun i => jv d 1 12 [some (.ref 2001), some (.int 13), some (.ref 36), some (.long (pkS y_1 i).1), none, some (.int (nI (pkS y_1 i).2.1)), some (.int (nI i))] [] (shC.take 37, I, va_up L 36 (pkS y_1 i).2.2, P)) 76 (fun i hi => by
    have hp : (pkS y_1 i).2.1 < 13 := by rw [pkS_N]; exact hN i hi
    have c1 : nI i < (76 : Int32) := nI_lt (b := 76) hi (by decide)
    have c2 : nI (pkS y_1 i).2.1 < (13 : Int32) := nI_lt (b := 13) hp (by decide)
    rw [B1_12_k36, if_pos c1, if_pos c2, if_pos (j_in_nI hi (by decide)), nI_clamp (show i < 2 ^ 31 by omega)]
    by_cases hc : y_1.getD i 0 &&& 255 = 32
    · rw [if_pos hc, if_pos (j_in_nI hp (by decide)), B1_71_k36, nI_clamp (show (pkS y_1 i).2.1 < 2 ^ 31 by omega), hup _ (fun _ => 0), nI_1, nI_1]
      simp only [pkS, if_pos hc]
    · rw [if_neg hc, if_pos (j_in_nI hi (by decide)), B1_71_k36, nI_1]
      simp only [pkS, if_neg hc])
  rw [K1_36]
  refine key.trans ?_
  rw [B1_12_k36, if_neg (show ¬ nI 76 < (76 : Int32) from nI_nlt (a := 76) (b := 76) (Nat.le_refl _) (by decide))]
theorem packed_37 {d : Nat} (I : Nat → Nat → Int32) (L : Nat → Nat → Int64) (P : Nat → Nat → Option Nat) (o2 o3 o4 o5 o6 : Option Value) : jv d 1 0 [some (.ref 2002), some (.int 11), o2, o3, o4, o5, o6] [] (shC.take 37, I, L, P) = some (some (.ref 37), (shC.take 38, I, va_up L 37 (pkS y_2 64).2.2, P)) := by
  have hN : ∀ i, i < 64 → pkN y_2 i < 11 := by decide +kernel
  have hup : ∀ (f g : Nat → Int64) (k : Nat) (v : Int64), j_up (va_up L 37 f) 37 k v = va_up L 37 (va_up f k v) := by
    intro f g k v
    unfold j_up
    rw [va_up_self, va_up_up]
  have key := j_run (fun i => jv d 1 12 [some (.ref 2002), some (.int 11), some (.ref 37), some (.long (pkS y_2 i).1), none, some (.int (nI (pkS y_2 i).2.1)), some (.int (nI i))] [] (shC.take 38, I, va_up L 37 (pkS y_2 i).2.2, P)) 64 (fun i hi => by
    have hp : (pkS y_2 i).2.1 < 11 := by rw [pkS_N]; exact hN i hi
    have c1 : nI i < (64 : Int32) := nI_lt (b := 64) hi (by decide)
    have c2 : nI (pkS y_2 i).2.1 < (11 : Int32) := nI_lt (b := 11) hp (by decide)
    rw [B1_12_k37, if_pos c1, if_pos c2, if_pos (j_in_nI hi (by decide)), nI_clamp (show i < 2 ^ 31 by omega)]
    by_cases hc : y_2.getD i 0 &&& 255 = 32
    · rw [if_pos hc, if_pos (j_in_nI hp (by decide)), B1_71_k37, nI_clamp (show (pkS y_2 i).2.1 < 2 ^ 31 by omega), hup _ (fun _ => 0), nI_1, nI_1]
      simp only [pkS, if_pos hc]
    · rw [if_neg hc, if_pos (j_in_nI hi (by decide)), B1_71_k37, nI_1]
      simp only [pkS, if_neg hc])
  rw [K1_37]
  refine key.trans ?_
  rw [B1_12_k37, if_neg (show ¬ nI 64 < (64 : Int32) from nI_nlt (a := 64) (b := 64) (Nat.le_refl _) (by decide))]
theorem m46 {n a : Nat} (I : Nat → Nat → Int32) (h : n = a) : va_up (va_up I a (fun _ => 0)) n (j_fill (va_up I a (fun _ => 0) n) m0f 1189) = va_up I a m0f := by
  subst h
  rw [va_up_self, va_up_up, fill_m0z]
theorem init46_1 {d : Nat} (I : Nat → Nat → Int32) (L : Nat → Nat → Int64) (P : Nat → Nat → Option Nat) : jv (d + 2) 46 0 [some (.ref 1)] [] (shC.take 2, I, L, P) = some (none, (shC.take 3, va_up I 2 m0f, L, j_up P 1 0 (some 2))) := by
  rw [K46_1_0, jgo_some rfl (setLeast_n1 _ L P _ _), m46 I rfl]
  simp only [Option.toList, List.nil_append]
  rw [K46_1_1]
theorem init46_3 {d : Nat} (I : Nat → Nat → Int32) (L : Nat → Nat → Int64) (P : Nat → Nat → Option Nat) : jv (d + 2) 46 0 [some (.ref 3)] [] (shC.take 4, I, L, P) = some (none, (shC.take 5, va_up I 4 m0f, L, j_up P 3 0 (some 4))) := by
  rw [K46_3_0, jgo_some rfl (setLeast_n3 _ L P _ _), m46 I rfl]
  simp only [Option.toList, List.nil_append]
  rw [K46_3_1]
theorem init46_5 {d : Nat} (I : Nat → Nat → Int32) (L : Nat → Nat → Int64) (P : Nat → Nat → Option Nat) : jv (d + 2) 46 0 [some (.ref 5)] [] (shC.take 6, I, L, P) = some (none, (shC.take 7, va_up I 6 m0f, L, j_up P 5 0 (some 6))) := by
  rw [K46_5_0, jgo_some rfl (setLeast_n5 _ L P _ _), m46 I rfl]
  simp only [Option.toList, List.nil_append]
  rw [K46_5_1]
