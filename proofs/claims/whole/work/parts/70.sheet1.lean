/-! SHEETS: what is told of a sheet, but for its rests -/
def shIn (w h : Nat) (o : Nat → Nat → Nat → Nat) (I J : Nat → Nat → Int32) : Prop := w ≤ 64 ∧ h ≤ 48 ∧ I 83 3 = nI w ∧ I 83 4 = nI h ∧ J 6 4 = nI w ∧ J 6 5 = nI h ∧ (∀ s x y, o s x y < 2 ^ 31) ∧ (∀ s, s < 6 → ∀ x y, x < w → y < h → I 90 (s * 3072 + y * 64 + x) = nI (o s x y)) ∧ (∀ s, s < 6 → ∀ x y, x < 64 → y < 48 → J 53 (3072 * s + 64 * y + x) = nI (o s x y)) ∧ (∀ s x y, w ≤ x → o s x y = 0) ∧ (∀ s x y, h ≤ y → o s x y = 0)
section SHEET
variable {d e : Nat} {I J : Nat → Nat → Int32} {L L' : Nat → Nat → Int64} {pa pb pu pw : Option Nat} {K : Option Value → jS → jO} {w h : Nat} {o : Nat → Nat → Nat → Nat}
theorem own_c (H : shIn w h o I J) {s x y : Nat} (hs : s < 6) (hx : x ≤ 64) (hy : y ≤ 48) : jv d 123 0 [some (.ref 83), some (.int (nI s)), some (.int (nI x)), some (.int (nI y))] [] (shC, I, L, pX pa pb pu pw) = some (some (.int (nI (o s x y))), (shC, I, L, pX pa pb pu pw)) := by
  obtain ⟨h1, h2, h3, h4, h5, h6, h7, h8, h9, ha, hb⟩ := H
  rw [B123_0, if_neg (show ¬ nI x < 0 from nI_nlt (a := x) (b := 0) (by omega) (by omega)), h3, h4, if_neg (show ¬ nI y < 0 from nI_nlt (a := y) (b := 0) (by omega) (by omega))]
  by_cases qx : x < w
  · rw [if_pos (nI_lt qx (by omega))]
    by_cases qy : y < h
    · rw [if_pos (nI_lt qy (by omega))]
      have e1 : nI s * 3072 + nI y * 64 + nI x = nI (s * 3072 + y * 64 + x) := by
        rw [show nI s * 3072 = nI (s * 3072) from nI_mul s 3072, show nI y * 64 = nI (y * 64) from nI_mul y 64, nI_add, nI_add]
      rw [e1, if_pos (j_in_nI (by omega) (by decide)), B123_45, nI_clamp (by omega), h8 s hs x y qx qy]
    · rw [if_neg (nI_nlt (by omega) (by omega)), B123_44, B123_45, hb s x y (by omega)]
      rfl
  · rw [if_neg (nI_nlt (by omega) (by omega)), B123_44, B123_45, ha s x y (by omega)]
    rfl
theorem own_c1 {x y : Int32} {s : Int32} (hx : x < 0 ∨ y < 0) : jv d 123 0 [some (.ref 83), some (.int s), some (.int x), some (.int y)] [] (shC, I, L, pX pa pb pu pw) = some (some (.int 0), (shC, I, L, pX pa pb pu pw)) := by
  rw [B123_0]
  by_cases q : x < 0
  · rw [if_pos q, B123_44, B123_45]
  · rw [if_neg q]
    by_cases r : x < I 83 3
    · rw [if_pos r, if_pos (by rcases hx with z | z; exact absurd z q; exact z), B123_44, B123_45]
    · rw [if_neg r, B123_44, B123_45]
theorem own_cx (H : shIn w h o I J) {s x y : Nat} (hs : s < 6) (hx : x ≤ 64) (hy : y ≤ 48) : jv d 123 0 [some (.ref 83), some (.int (nI s)), some (.int (nI x - 1)), some (.int (nI y))] [] (shC, I, L, pX pa pb pu pw) = some (some (.int (nI (prvN (fun x => o s x y) x))), (shC, I, L, pX pa pb pu pw)) := by
  unfold prvN
  by_cases q : x = 0
  · subst q
    rw [if_pos rfl]
    exact own_c1 (Or.inl (by decide))
  · rw [if_neg q, show nI x - 1 = nI (x - 1) from nI_sub (b := 1) (by omega)]
    exact own_c H hs (by omega) hy
theorem own_cy (H : shIn w h o I J) {s x y : Nat} (hs : s < 6) (hx : x ≤ 64) (hy : y ≤ 48) : jv d 123 0 [some (.ref 83), some (.int (nI s)), some (.int (nI x)), some (.int (nI y - 1))] [] (shC, I, L, pX pa pb pu pw) = some (some (.int (nI (prvN (o s x) y))), (shC, I, L, pX pa pb pu pw)) := by
  unfold prvN
  by_cases q : y = 0
  · subst q
    rw [if_pos rfl]
    exact own_c1 (Or.inr (by decide))
  · rw [if_neg q, show nI y - 1 = nI (y - 1) from nI_sub (b := 1) (by omega)]
    exact own_c H hs hx (by omega)
theorem g_own (H : shIn w h o I J) {s x y : Nat} (hs : s < 6) (hx : x ≤ 64) (hy : y ≤ 48) : jgo jTT jMM (d + 1) 123 [.ref 83, .int (nI s), .int (nI x), .int (nI y)] (shC, I, L, pX pa pb pu pw) K = K (some (.int (nI (o s x y)))) (shC, I, L, pX pa pb pu pw) := jgo_some rfl (own_c H hs hx hy)
theorem g_ownx (H : shIn w h o I J) {s x y : Nat} (hs : s < 6) (hx : x ≤ 64) (hy : y ≤ 48) : jgo jTT jMM (d + 1) 123 [.ref 83, .int (nI s), .int (nI x - 1), .int (nI y)] (shC, I, L, pX pa pb pu pw) K = K (some (.int (nI (prvN (fun x => o s x y) x)))) (shC, I, L, pX pa pb pu pw) := jgo_some rfl (own_cx H hs hx hy)
theorem g_owny (H : shIn w h o I J) {s x y : Nat} (hs : s < 6) (hx : x ≤ 64) (hy : y ≤ 48) : jgo jTT jMM (d + 1) 123 [.ref 83, .int (nI s), .int (nI x), .int (nI y - 1)] (shC, I, L, pX pa pb pu pw) K = K (some (.int (nI (prvN (o s x) y)))) (shC, I, L, pX pa pb pu pw) := jgo_some rfl (own_cy H hs hx hy)
theorem prv_lt {p : Nat → Nat} (hp : ∀ x, p x < 2 ^ 31) (x : Nat) : prvN p x < 2 ^ 31 := by
  unfold prvN
  split
  · decide
  · exact hp _
/-- what a cell adds -/
def sh1 (o : Nat → Nat → Nat → Nat) (s : Nat) : Nat → Nat → Nat → Nat := fun y x a => if o s x y = 0 then a else a + 1
def sh2 (o : Nat → Nat → Nat → Nat) (s : Nat) : Nat → Nat → Nat → Nat := fun y x a => if o s x y = 0 then a else y + 1
def sh3 (o : Nat → Nat → Nat → Nat) (s : Nat) : Nat → Nat → Nat → Nat := fun y x a => a + ((if o s x y = prvN (fun x => o s x y) x then 0 else 1) + (if o s x y = prvN (o s x) y then 0 else 1))
def sh4 (o : Nat → Nat → Nat → Nat) (s : Nat) : Nat → Nat → Nat → Nat := fun y x a => a + (cutN (o s x y) (o s (x + 1) y) + cutN (o s x y) (prvN (fun x => o s x y) x) + (cutN (o s x y) (o s x (y + 1)) + cutN (o s x y) (prvN (o s x) y)))
theorem c1_row (H : shIn w h o I J) {s y a : Nat} (hs : s < 6) (hy : y < h) : jv (d + 1) 124 15 [some (.ref 83), some (.int (nI s)), some (.int (nI a)), some (.int (nI y)), some (.int (nI 0))] [] (shC, I, L, pX pa pb pu pw) = jv (d + 1) 124 15 [some (.ref 83), some (.int (nI s)), some (.int (nI (wkx (sh1 o s) y w a))), some (.int (nI y)), some (.int (nI w))] [] (shC, I, L, pX pa pb pu pw) := by
  obtain ⟨h1, h2, h3, h4, h5, h6, h7, h8, h9, ha, hb⟩ := id H
  refine j_run (fun x => jv (d + 1) 124 15 [some (.ref 83), some (.int (nI s)), some (.int (nI (wkx (sh1 o s) y x a))), some (.int (nI y)), some (.int (nI x))] [] (shC, I, L, pX pa pb pu pw)) w (fun x hx => ?_)
  have hz := h7 s x y
  rw [B124_15, h3, if_pos (nI_lt hx (by omega)), g_own H hs (by omega) (by omega)]
  dsimp only [Option.toList_some, List.cons_append, List.nil_append]
  rw [B124_33]
  show _ = jv (d + 1) 124 15 [some (.ref 83), some (.int (nI s)), some (.int (nI (if o s x y = 0 then wkx (sh1 o s) y x a else wkx (sh1 o s) y x a + 1))), some (.int (nI y)), some (.int (nI (x + 1)))] [] (shC, I, L, pX pa pb pu pw)
  by_cases q : o s x y = 0
  · rw [if_pos (show nI (o s x y) = 0 by rw [q]; rfl), B124_41, if_pos q, nI_1 x, show nI (wkx (sh1 o s) y x a) + 0 = nI (wkx (sh1 o s) y x a + 0) from nI_add _ 0]
    rfl
  · rw [if_neg (show ¬ nI (o s x y) = 0 from fun r => q ((nI_eq hz (b := 0) (by decide)).mp r)), B124_41, if_neg q, nI_1 x, nI_1]
theorem c2_row (H : shIn w h o I J) {s y a : Nat} (hs : s < 6) (hy : y < h) : jv (d + 1) 125 15 [some (.ref 83), some (.int (nI s)), some (.int (nI a)), some (.int (nI y)), some (.int (nI 0))] [] (shC, I, L, pX pa pb pu pw) = jv (d + 1) 125 15 [some (.ref 83), some (.int (nI s)), some (.int (nI (wkx (sh2 o s) y w a))), some (.int (nI y)), some (.int (nI w))] [] (shC, I, L, pX pa pb pu pw) := by
  obtain ⟨h1, h2, h3, h4, h5, h6, h7, h8, h9, ha, hb⟩ := id H
  refine j_run (fun x => jv (d + 1) 125 15 [some (.ref 83), some (.int (nI s)), some (.int (nI (wkx (sh2 o s) y x a))), some (.int (nI y)), some (.int (nI x))] [] (shC, I, L, pX pa pb pu pw)) w (fun x hx => ?_)
  have hz := h7 s x y
  rw [B125_15, h3, if_pos (nI_lt hx (by omega)), g_own H hs (by omega) (by omega)]
  dsimp only [Option.toList_some, List.cons_append, List.nil_append]
  rw [B125_32]
  show _ = jv (d + 1) 125 15 [some (.ref 83), some (.int (nI s)), some (.int (nI (if o s x y = 0 then wkx (sh2 o s) y x a else y + 1))), some (.int (nI y)), some (.int (nI (x + 1)))] [] (shC, I, L, pX pa pb pu pw)
  by_cases q : o s x y = 0
  · rw [if_pos (show nI (o s x y) = 0 by rw [q]; rfl), B125_42, if_pos q, nI_1 x]
  · rw [if_neg (show ¬ nI (o s x y) = 0 from fun r => q ((nI_eq hz (b := 0) (by decide)).mp r)), B125_42, if_neg q, nI_1 x, nI_1]
theorem c3_row (H : shIn w h o I J) {s y a : Nat} (hs : s < 6) (hy : y ≤ h) (o5 : Option Value) : ∃ o5' : Option Value, jv (d + 1) 126 15 [some (.ref 83), some (.int (nI s)), some (.int (nI a)), some (.int (nI y)), some (.int (nI 0)), o5] [] (shC, I, L, pX pa pb pu pw) = jv (d + 1) 126 15 [some (.ref 83), some (.int (nI s)), some (.int (nI (wkx (sh3 o s) y (w + 1) a))), some (.int (nI y)), some (.int (nI (w + 1))), o5'] [] (shC, I, L, pX pa pb pu pw) := by
  obtain ⟨h1, h2, h3, h4, h5, h6, h7, h8, h9, ha, hb⟩ := id H
  refine j_runE (fun x o5 => jv (d + 1) 126 15 [some (.ref 83), some (.int (nI s)), some (.int (nI (wkx (sh3 o s) y x a))), some (.int (nI y)), some (.int (nI x)), o5] [] (shC, I, L, pX pa pb pu pw)) (w + 1) (fun x hx o5 => ⟨some (.int (nI (o s x y))), ?_⟩) o5
  have hz := h7 s x y
  have hpx := prv_lt (p := fun x => o s x y) (fun x => h7 s x y) x
  have hpy := prv_lt (p := o s x) (fun y => h7 s x y) y
  rw [B126_15, h3, if_neg (nI_nlt (by omega) (by omega)), g_own H hs (by omega) (by omega)]
  dsimp only [Option.toList_some, List.cons_append, List.nil_append]
  rw [B126_32, g_ownx H hs (by omega) (by omega)]
  dsimp only [Option.toList_some, List.cons_append, List.nil_append]
  rw [B126_47]
  show _ = jv (d + 1) 126 15 [some (.ref 83), some (.int (nI s)), some (.int (nI (wkx (sh3 o s) y x a + ((if o s x y = prvN (fun x => o s x y) x then 0 else 1) + (if o s x y = prvN (o s x) y then 0 else 1))))), some (.int (nI y)), some (.int (nI (x + 1))), some (.int (nI (o s x y)))] [] (shC, I, L, pX pa pb pu pw)
  generalize wkx (sh3 o s) y x a = b
  have k1 : ∀ c : Nat, (c = 0 ∨ c = 1) → jv (d + 1) 126 55 [some (.ref 83), some (.int (nI s)), some (.int (nI b)), some (.int (nI y)), some (.int (nI x)), some (.int (nI (o s x y)))] [.int (nI c), .int (nI b)] (shC, I, L, pX pa pb pu pw) = jv (d + 1) 126 15 [some (.ref 83), some (.int (nI s)), some (.int (nI (b + (c + (if o s x y = prvN (o s x) y then 0 else 1))))), some (.int (nI y)), some (.int (nI (x + 1))), some (.int (nI (o s x y)))] [] (shC, I, L, pX pa pb pu pw) := fun c _ => by
    rw [B126_55, g_owny H hs (by omega) (by omega)]
    dsimp only [Option.toList_some, List.cons_append, List.nil_append]
    rw [B126_70]
    by_cases q : o s x y = prvN (o s x) y
    · rw [if_pos (by rw [← q]), B126_78, if_pos q, nI_1 x, nI_add, show nI (b + c) + 0 = nI (b + c + 0) from nI_add _ 0, Nat.add_assoc]
    · rw [if_neg (fun r => q ((nI_eq hz hpy).mp r)), B126_78, if_neg q, nI_1 x, nI_add, nI_1 (b + c), Nat.add_assoc]
  by_cases q : o s x y = prvN (fun x => o s x y) x
  · rw [if_pos (by rw [← q]), if_pos q]
    exact k1 0 (Or.inl rfl)
  · rw [if_neg (fun r => q ((nI_eq hz hpx).mp r)), if_neg q]
    exact k1 1 (Or.inr rfl)
end SHEET
