/-! THE FIRST CALL: places, what may stand there, the tape, the sea's spaces -/
/-- is it a place -/
def plv (t r f : Int32) : Int32 := if t < 0 then 0 else if t < 13 then if r < 0 then 0 else if r < z_0.getD t.toNatClampNeg 0 then if f < 0 then 0 else if f < z_1.getD t.toNatClampNeg 0 then 1 else 0 else 0 else 0
theorem rz0 : ∀ t, t < 13 → z_0.getD t 0 = nI (rowsN.getD t 0) := tz0
theorem rCst_up0 {I : Nat → Nat → Int32} (h : rCst I) (g : Nat → Int32) : rCst (va_up I 0 g) := by
  obtain ⟨a, b, c, e, f⟩ := h
  exact ⟨fun t ht => by rw [va_up_ne _ _ (by decide)]; exact a t ht, fun t ht => by rw [va_up_ne _ _ (by decide)]; exact b t ht, fun t ht => by rw [va_up_ne _ _ (by decide)]; exact c t ht, fun t ht => by rw [va_up_ne _ _ (by decide)]; exact e t ht, fun t ht => by rw [va_up_ne _ _ (by decide)]; exact f t ht⟩
theorem rI0_cst : rCst rI0 := rCst_up0 (rT_cst.up (by decide) _) _
section PLACES
variable {d : Nat} {I : Nat → Nat → Int32} {L : Nat → Nat → Int64} {pa pb pu pw : Option Nat} {K : Option Value → jS → jO}
theorem pl_c (t r f : Int32) : jv d 189 0 [some (.int t), some (.int r), some (.int f)] [] (shC, I, L, pX pa pb pu pw) = some (some (.int (plv t r f)), (shC, I, L, pX pa pb pu pw)) := by
  unfold plv
  rw [B189_0]
  by_cases h1 : t < 0
  · rw [if_pos h1, if_pos h1, B189_40, B189_41, if_pos nb0]
  rw [if_neg h1, if_neg h1]
  by_cases h2 : t < 13
  · have hi : j_in t 13 = true := j_in_of (by decide) h1 h2
    rw [if_pos h2, if_pos h2]
    by_cases h3 : r < 0
    · rw [if_pos h3, if_pos h3, B189_40, B189_41, if_pos nb0]
    rw [if_neg h3, if_neg h3, if_pos hi]
    by_cases h4 : r < z_0.getD t.toNatClampNeg 0
    · rw [if_pos h4, if_pos h4]
      by_cases h5 : f < 0
      · rw [if_pos h5, if_pos h5, B189_40, B189_41, if_pos nb0]
      rw [if_neg h5, if_neg h5, if_pos hi]
      by_cases h6 : f < z_1.getD t.toNatClampNeg 0
      · rw [if_pos h6, if_pos h6, B189_41, if_pos nb1]
      · rw [if_neg h6, if_neg h6, B189_40, B189_41, if_pos nb0]
    · rw [if_neg h4, if_neg h4, B189_40, B189_41, if_pos nb0]
  · rw [if_neg h2, if_neg h2, B189_40, B189_41, if_pos nb0]
theorem pl_r (h : rCst I) (t r f : Int32) : jv d 218 0 [some (.ref 0), some (.int t), some (.int r), some (.int f)] [] (shR, I, L, pR) = some (some (.int (plv t r f)), (shR, I, L, pR)) := by
  unfold plv
  rw [B218_0]
  by_cases h1 : t < 0
  · rw [if_pos h1, if_pos h1, B218_42, B218_43, if_pos nb0]
  rw [if_neg h1, if_neg h1]
  by_cases h2 : t < 13
  · have hi : j_in t 13 = true := j_in_of (by decide) h1 h2
    obtain ⟨n, hn, rfl⟩ := i_small (n := 13) h1 h2 (by decide)
    have e1 : I 1 (nI n).toNatClampNeg = z_0.getD (nI n).toNatClampNeg 0 := by rw [nI_clamp (by omega), h.1 n hn, tz0 n hn]
    have e2 : I 2 (nI n).toNatClampNeg = z_1.getD (nI n).toNatClampNeg 0 := by rw [nI_clamp (by omega), h.2.1 n hn, tz1 n hn]
    rw [if_pos h2, if_pos h2, e1, e2]
    by_cases h3 : r < 0
    · rw [if_pos h3, if_pos h3, B218_42, B218_43, if_pos nb0]
    rw [if_neg h3, if_neg h3, if_pos hi]
    by_cases h4 : r < z_0.getD (nI n).toNatClampNeg 0
    · rw [if_pos h4, if_pos h4]
      by_cases h5 : f < 0
      · rw [if_pos h5, if_pos h5, B218_42, B218_43, if_pos nb0]
      rw [if_neg h5, if_neg h5, if_pos hi]
      by_cases h6 : f < z_1.getD (nI n).toNatClampNeg 0
      · rw [if_pos h6, if_pos h6, B218_43, if_pos nb1]
      · rw [if_neg h6, if_neg h6, B218_42, B218_43, if_pos nb0]
    · rw [if_neg h4, if_neg h4, B218_42, B218_43, if_pos nb0]
  · rw [if_neg h2, if_neg h2, B218_42, B218_43, if_pos nb0]
theorem g_pl_c (t r f : Int32) : jgo jTT jMM (d + 1) 189 [.int t, .int r, .int f] (shC, I, L, pX pa pb pu pw) K = K (some (.int (plv t r f))) (shC, I, L, pX pa pb pu pw) := jgo_some rfl (pl_c t r f)
theorem g_pl_r (h : rCst I) (t r f : Int32) : jgo jTT jMM (d + 1) 218 [.ref 0, .int t, .int r, .int f] (shR, I, L, pR) K = K (some (.int (plv t r f))) (shR, I, L, pR) := jgo_some rfl (pl_r h t r f)
/-- a place by its numbers -/
theorem plv_1 {t r f : Int32} (h : ¬ plv t r f = 0) : ∃ a b c : Nat, a < 13 ∧ b < rowsN.getD a 0 ∧ c < fieldsN.getD a 0 ∧ t = nI a ∧ r = nI b ∧ f = nI c := by
  unfold plv at h
  by_cases h1 : t < 0
  · rw [if_pos h1] at h; exact absurd rfl h
  rw [if_neg h1] at h
  by_cases h2 : t < 13
  · rw [if_pos h2] at h
    obtain ⟨a, ha, rfl⟩ := i_small (n := 13) h1 h2 (by decide)
    rw [nI_clamp (by omega), tz0 a ha, tz1 a ha] at h
    have hb := tab_fp a ha
    by_cases h3 : r < 0
    · rw [if_pos h3] at h; exact absurd rfl h
    rw [if_neg h3] at h
    by_cases h4 : r < nI (rowsN.getD a 0)
    · rw [if_pos h4] at h
      obtain ⟨b, hb', rfl⟩ := i_small h3 h4 (by omega)
      by_cases h5 : f < 0
      · rw [if_pos h5] at h; exact absurd rfl h
      rw [if_neg h5] at h
      by_cases h6 : f < nI (fieldsN.getD a 0)
      · obtain ⟨c, hc, rfl⟩ := i_small h5 h6 (by omega)
        exact ⟨a, b, c, ha, hb', hc, rfl, rfl, rfl⟩
      · rw [if_neg h6] at h; exact absurd rfl h
    · rw [if_neg h4] at h; exact absurd rfl h
  · rw [if_neg h2] at h; exact absurd rfl h
theorem place_lt {a b c : Nat} (ha : a < 13) (hb : b < rowsN.getD a 0) (hc : c < fieldsN.getD a 0) : fpN.getD a 0 + b * fieldsN.getD a 0 + c < 1189 := Nat.lt_of_lt_of_le (tab_place ha hb hc) (tab_fp a ha).2.1
/-- a field of the kept model -/
theorem of_1 {a b c : Nat} (ha : a < 13) (hb : b < rowsN.getD a 0) (hc : c < fieldsN.getD a 0) (o4 : Option Value) : jv d 51 0 [some (.ref 1), some (.int (nI a)), some (.int (nI b)), some (.int (nI c)), o4] [] (shC, I, L, pX pa pb pu pw) = some (some (.int (I 2 (fpN.getD a 0 + b * fieldsN.getD a 0 + c))), (shC, I, L, pX pa pb pu pw)) := by
  have hp := place_lt ha hb hc
  rw [B51_0_o1, if_pos (j_in_nI ha (by decide)), if_pos (j_in_nI ha (by decide)), nI_clamp (by omega), tz3 a ha, tz1 a ha, nI_mul, nI_add, nI_add, if_neg (nI_pos (by omega)), if_pos (show nI _ < (1189 : Int32) from nI_lt hp (by decide)), if_pos (j_in_nI hp (by decide)), nI_clamp (by omega), B51_41_o1]
end PLACES
theorem ar_model (t r f : Int32) : ∃ v : Int32, jEnds 179 [.int t, .int r, .int f] SC0 (.int v) ∧ jEnds 236 [.int t, .int r, .int f] SR0 (.int v) := by
  have hc := rI0_cst
  by_cases h : plv t r f = 0
  · exact ⟨-1, ends_c0 rfl (fun d => (show jv (d + 6) 179 0 [some (.ref 0), some (.int t), some (.int r), some (.int f)] [] SC0 = some (some (.int (-1)), SC0) from by simp (decide := true) only [SC0, B179_0, g_pl_c, h, B179_6, ↓reduceIte, Option.toList_some, List.cons_append, List.nil_append, List.append_nil])), ends_r0 rfl (fun d => (show jv (d + 6) 236 0 [some (.ref 0), some (.int t), some (.int r), some (.int f)] [] SR0 = some (some (.int (-1)), SR0) from by simp (decide := true) only [SR0, B236_0, g_pl_r hc, h, B236_7, ↓reduceIte, Option.toList_some, List.cons_append, List.nil_append, List.append_nil]))⟩
  · obtain ⟨a, b, c, ha, hb, hf, rfl, rfl, rfl⟩ := plv_1 h
    have hp := place_lt ha hb hf
    refine ⟨m0f (fpN.getD a 0 + b * fieldsN.getD a 0 + c), ends_c0 rfl (fun d => ?_), ends_r0 rfl (fun d => ?_)⟩
    · have e := fun (o : Option Value) => of_1 (d := d + 5) (I := i3f) (L := l3f) (pa := some 38) (pb := some 49) (pu := none) (pw := none) ha hb hf o
      have g : ∀ K, jgo jTT jMM (d + 6) 51 [.ref 1, .int (nI a), .int (nI b), .int (nI c)] (shC, i3f, l3f, pX (some 38) (some 49) none none) K = K (some (.int (i3f 2 (fpN.getD a 0 + b * fieldsN.getD a 0 + c)))) (shC, i3f, l3f, pX (some 38) (some 49) none none) := fun K => jgo_some rfl (e none)
      show jv (d + 6) 179 0 [some (.ref 0), some (.int (nI a)), some (.int (nI b)), some (.int (nI c))] [] SC0 = some (some (.int (m0f (fpN.getD a 0 + b * fieldsN.getD a 0 + c))), SC0)
      simp (decide := true) only [SC0, B179_0, g_pl_c, h, B179_6, fc_0_11, g, B179_33, ↓reduceIte, Option.toList_some, List.cons_append, List.nil_append, List.append_nil]
      rfl
    · have g : ∀ K, jgo jTT jMM (d + 6) 214 [.ref 0, .int (nI a), .int (nI b), .int (nI c)] (shR, rI0, (fun _ _ => 0), pR) K = K (some (.int (nI (fpN.getD a 0 + b * fieldsN.getD a 0 + c)))) (shR, rI0, (fun _ _ => 0), pR) := fun K => jgo_some rfl (at_ok hc ha b c)
      show jv (d + 6) 236 0 [some (.ref 0), some (.int (nI a)), some (.int (nI b)), some (.int (nI c))] [] SR0 = some (some (.int (m0f (fpN.getD a 0 + b * fieldsN.getD a 0 + c))), SR0)
      simp (decide := true) only [SR0, B236_0, g_pl_r hc, h, B236_7, fr_0_18, g, B236_35, B236_36, j_in_nI hp, nI_clamp (show fpN.getD a 0 + b * fieldsN.getD a 0 + c < 2 ^ 31 by omega), ↓reduceIte, Option.toList_some, List.cons_append, List.nil_append, List.append_nil]
      rfl
theorem i_three {x : Int32} (h0 : ¬ x < 0) (h1 : x < 3) : x = 0 ∨ x = 1 ∨ x = 2 := by
  obtain ⟨j, hj, rfl⟩ := i_small (n := 3) h0 h1 (by decide)
  match j, hj with
  | 0, _ => exact Or.inl rfl
  | 1, _ => exact Or.inr (Or.inl rfl)
  | 2, _ => exact Or.inr (Or.inr rfl)
set_option maxRecDepth 100000 in
theorem ar_get (x t r f : Int32) : ∃ v : Int32, jEnds 170 [.int x, .int t, .int r, .int f] SC0 (.int v) ∧ jEnds 224 [.int x, .int t, .int r, .int f] SR0 (.int v) := by
  have hc := rI0_cst
  by_cases h0 : x < 0
  · exact ⟨-1, ends_c0 rfl (fun d => (show jv (d + 6) 170 0 [some (.ref 0), some (.int x), some (.int t), some (.int r), some (.int f)] [] SC0 = some (some (.int (-1)), SC0) from by simp (decide := true) only [SC0, fc_0_11, B170_0_u, g_per_c, perv, B170_4_u, B170_17_u, h0, ↓reduceIte, Option.toList_some, List.cons_append, List.nil_append, List.append_nil])), ends_r0 rfl (fun d => (show jv (d + 6) 224 0 [some (.ref 0), some (.int x), some (.int t), some (.int r), some (.int f), none] [] SR0 = some (some (.int (-1)), SR0) from by simp (decide := true) only [SR0, fr_0_18, B224_0, g_per_r, perv, B224_4, B224_18, h0, ↓reduceIte, Option.toList_some, List.cons_append, List.nil_append, List.append_nil]))⟩
  by_cases h1 : x < 3
  · rcases i_three h0 h1 with rfl | rfl | rfl
    · by_cases h2 : plv t r f = 0
      · exact ⟨-1, ends_c0 rfl (fun d => (show jv (d + 6) 170 0 [some (.ref 0), some (.int 0), some (.int t), some (.int r), some (.int f)] [] SC0 = some (some (.int (-1)), SC0) from by simp (decide := true) only [SC0, fc_0_11, B170_0_p0, g_per_c, perv, B170_4_p0, g_pl_c, B170_14_p0, B170_17_p0, fc_8_0, h2, ↓reduceIte, Option.toList_some, List.cons_append, List.nil_append, List.append_nil])), ends_r0 rfl (fun d => (show jv (d + 6) 224 0 [some (.ref 0), some (.int 0), some (.int t), some (.int r), some (.int f), none] [] SR0 = some (some (.int (-1)), SR0) from by simp (decide := true) only [SR0, fr_0_18, B224_0, g_per_r, perv, B224_4, g_pl_r hc, B224_15, B224_18, fr_9, h2, ↓reduceIte, Option.toList_some, List.cons_append, List.nil_append, List.append_nil]))⟩
      · exact ⟨-2, ends_c0 rfl (fun d => (show jv (d + 6) 170 0 [some (.ref 0), some (.int 0), some (.int t), some (.int r), some (.int f)] [] SC0 = some (some (.int (-2)), SC0) from by simp (decide := true) only [SC0, fc_0_11, B170_0_p0, g_per_c, perv, B170_4_p0, g_pl_c, B170_14_p0, B170_17_p0, fc_8_0, h2, ↓reduceIte, Option.toList_some, List.cons_append, List.nil_append, List.append_nil])), ends_r0 rfl (fun d => (show jv (d + 6) 224 0 [some (.ref 0), some (.int 0), some (.int t), some (.int r), some (.int f), none] [] SR0 = some (some (.int (-2)), SR0) from by simp (decide := true) only [SR0, fr_0_18, B224_0, g_per_r, perv, B224_4, g_pl_r hc, B224_15, B224_18, fr_9, h2, ↓reduceIte, Option.toList_some, List.cons_append, List.nil_append, List.append_nil]))⟩
    · by_cases h2 : plv t r f = 0
      · exact ⟨-1, ends_c0 rfl (fun d => (show jv (d + 6) 170 0 [some (.ref 0), some (.int 1), some (.int t), some (.int r), some (.int f)] [] SC0 = some (some (.int (-1)), SC0) from by simp (decide := true) only [SC0, fc_0_11, B170_0_p1, g_per_c, perv, B170_4_p1, g_pl_c, B170_14_p1, B170_17_p1, fc_13_0, h2, ↓reduceIte, Option.toList_some, List.cons_append, List.nil_append, List.append_nil])), ends_r0 rfl (fun d => (show jv (d + 6) 224 0 [some (.ref 0), some (.int 1), some (.int t), some (.int r), some (.int f), none] [] SR0 = some (some (.int (-1)), SR0) from by simp (decide := true) only [SR0, fr_0_18, B224_0, g_per_r, perv, B224_4, g_pl_r hc, B224_15, B224_18, fr_9, h2, ↓reduceIte, Option.toList_some, List.cons_append, List.nil_append, List.append_nil]))⟩
      · exact ⟨-2, ends_c0 rfl (fun d => (show jv (d + 6) 170 0 [some (.ref 0), some (.int 1), some (.int t), some (.int r), some (.int f)] [] SC0 = some (some (.int (-2)), SC0) from by simp (decide := true) only [SC0, fc_0_11, B170_0_p1, g_per_c, perv, B170_4_p1, g_pl_c, B170_14_p1, B170_17_p1, fc_13_0, h2, ↓reduceIte, Option.toList_some, List.cons_append, List.nil_append, List.append_nil])), ends_r0 rfl (fun d => (show jv (d + 6) 224 0 [some (.ref 0), some (.int 1), some (.int t), some (.int r), some (.int f), none] [] SR0 = some (some (.int (-2)), SR0) from by simp (decide := true) only [SR0, fr_0_18, B224_0, g_per_r, perv, B224_4, g_pl_r hc, B224_15, B224_18, fr_9, h2, ↓reduceIte, Option.toList_some, List.cons_append, List.nil_append, List.append_nil]))⟩
    · by_cases h2 : plv t r f = 0
      · exact ⟨-1, ends_c0 rfl (fun d => (show jv (d + 6) 170 0 [some (.ref 0), some (.int 2), some (.int t), some (.int r), some (.int f)] [] SC0 = some (some (.int (-1)), SC0) from by simp (decide := true) only [SC0, fc_0_11, B170_0_p2, g_per_c, perv, B170_4_p2, g_pl_c, B170_14_p2, B170_17_p2, fc_18_0, h2, ↓reduceIte, Option.toList_some, List.cons_append, List.nil_append, List.append_nil])), ends_r0 rfl (fun d => (show jv (d + 6) 224 0 [some (.ref 0), some (.int 2), some (.int t), some (.int r), some (.int f), none] [] SR0 = some (some (.int (-1)), SR0) from by simp (decide := true) only [SR0, fr_0_18, B224_0, g_per_r, perv, B224_4, g_pl_r hc, B224_15, B224_18, fr_9, h2, ↓reduceIte, Option.toList_some, List.cons_append, List.nil_append, List.append_nil]))⟩
      · exact ⟨-2, ends_c0 rfl (fun d => (show jv (d + 6) 170 0 [some (.ref 0), some (.int 2), some (.int t), some (.int r), some (.int f)] [] SC0 = some (some (.int (-2)), SC0) from by simp (decide := true) only [SC0, fc_0_11, B170_0_p2, g_per_c, perv, B170_4_p2, g_pl_c, B170_14_p2, B170_17_p2, fc_18_0, h2, ↓reduceIte, Option.toList_some, List.cons_append, List.nil_append, List.append_nil])), ends_r0 rfl (fun d => (show jv (d + 6) 224 0 [some (.ref 0), some (.int 2), some (.int t), some (.int r), some (.int f), none] [] SR0 = some (some (.int (-2)), SR0) from by simp (decide := true) only [SR0, fr_0_18, B224_0, g_per_r, perv, B224_4, g_pl_r hc, B224_15, B224_18, fr_9, h2, ↓reduceIte, Option.toList_some, List.cons_append, List.nil_append, List.append_nil]))⟩
  · exact ⟨-1, ends_c0 rfl (fun d => (show jv (d + 6) 170 0 [some (.ref 0), some (.int x), some (.int t), some (.int r), some (.int f)] [] SC0 = some (some (.int (-1)), SC0) from by simp (decide := true) only [SC0, fc_0_11, B170_0_u, g_per_c, perv, B170_4_u, B170_17_u, h0, h1, ↓reduceIte, Option.toList_some, List.cons_append, List.nil_append, List.append_nil])), ends_r0 rfl (fun d => (show jv (d + 6) 224 0 [some (.ref 0), some (.int x), some (.int t), some (.int r), some (.int f), none] [] SR0 = some (some (.int (-1)), SR0) from by simp (decide := true) only [SR0, fr_0_18, B224_0, g_per_r, perv, B224_4, B224_18, h0, h1, ↓reduceIte, Option.toList_some, List.cons_append, List.nil_append, List.append_nil]))⟩
def mostv (t f : Nat) : Int32 := if t = 0 then (if f < 2 then 500 else if f = 2 then 4000 else if f = 3 then 50 else if f = 4 then 64 else if f = 5 then 48 else 6) else if t = 1 then 2000 else if t = 2 then (if f = 0 then 2 else if f < 5 then 15 else if f < 7 then 2000 else 16) else if t = 3 then (if f = 0 then 60000 else if f < 4 then 15 else 2000) else if t = 4 then (if f = 0 then 600000 else 32) else if t = 5 then (if f = 0 then 1 else if f = 3 then 2000 else 15) else if t = 6 then (if f = 0 then 10000 else if f < 3 then 15 else if f = 3 then 2000 else 1000000000) else if t = 7 then (if f < 12 then 16777215 else if f = 12 then 4 else 1) else if t = 8 then (if f = 0 then 1 else if f < 3 then 19 else if f < 5 then 9 else 7) else if t = 9 then (if f = 0 then 1 else if f = 7 then 1 else if f = 1 then 19 else if f = 4 then 19 else if f = 2 then 9 else if f = 5 then 9 else 7) else if t = 10 then (if f = 0 then 20 else if f < 3 then 6 else if f = 3 then 40 else 127) else 4000
theorem tzL : ∀ t, t < 12 → ∀ f, f < 14 → f < fieldsN.getD t 0 → z_5.getD (flN.getD t 0 + f) 0 = leastv t f := by decide +kernel
theorem tzM : ∀ t, t < 12 → ∀ f, f < 14 → f < fieldsN.getD t 0 → z_6.getD (flN.getD t 0 + f) 0 = mostv t f := by decide +kernel
theorem ite_some {c : Prop} [Decidable c] (a b : Int32) (S : jS) : (some (some (Value.int (if c then a else b)), S) : jO) = if c then some (some (.int a), S) else some (some (.int b), S) := by split <;> rfl
section MOST
variable {d : Nat} {I : Nat → Nat → Int32} {L : Nat → Nat → Int64} {pa pb pu pw : Option Nat} {K : Option Value → jS → jO}
set_option maxHeartbeats 2000000 in
theorem most_ok {t f : Nat} (ht : t < 13) (hf : f < 400) : jv d 216 0 [some (.int (nI t)), some (.int (nI f))] [] (shR, I, L, pR) = some (some (.int (mostv t f)), (shR, I, L, pR)) := by
  have c0 : Int32.ofInt (0) = nI 0 := by decide +kernel
  have e0 : nI t = nI 0 ↔ t = 0 := nI_eq (by omega) (by decide)
  have c1 : Int32.ofInt (1) = nI 1 := by decide +kernel
  have e1 : nI t = nI 1 ↔ t = 1 := nI_eq (by omega) (by decide)
  have c2 : Int32.ofInt (2) = nI 2 := by decide +kernel
  have e2 : nI t = nI 2 ↔ t = 2 := nI_eq (by omega) (by decide)
  have c3 : Int32.ofInt (3) = nI 3 := by decide +kernel
  have e3 : nI t = nI 3 ↔ t = 3 := nI_eq (by omega) (by decide)
  have c4 : Int32.ofInt (4) = nI 4 := by decide +kernel
  have e4 : nI t = nI 4 ↔ t = 4 := nI_eq (by omega) (by decide)
  have c5 : Int32.ofInt (5) = nI 5 := by decide +kernel
  have e5 : nI t = nI 5 ↔ t = 5 := nI_eq (by omega) (by decide)
  have c6 : Int32.ofInt (6) = nI 6 := by decide +kernel
  have e6 : nI t = nI 6 ↔ t = 6 := nI_eq (by omega) (by decide)
  have c7 : Int32.ofInt (7) = nI 7 := by decide +kernel
  have e7 : nI t = nI 7 ↔ t = 7 := nI_eq (by omega) (by decide)
  have c8 : Int32.ofInt (8) = nI 8 := by decide +kernel
  have e8 : nI t = nI 8 ↔ t = 8 := nI_eq (by omega) (by decide)
  have c9 : Int32.ofInt (9) = nI 9 := by decide +kernel
  have e9 : nI t = nI 9 ↔ t = 9 := nI_eq (by omega) (by decide)
  have c10 : Int32.ofInt (10) = nI 10 := by decide +kernel
  have e10 : nI t = nI 10 ↔ t = 10 := nI_eq (by omega) (by decide)
  have g0 : nI f = (0 : Int32) ↔ f = 0 := nI_eq (b := 0) (by omega) (by decide)
  have g1 : nI f = (1 : Int32) ↔ f = 1 := nI_eq (b := 1) (by omega) (by decide)
  have g2 : nI f = (2 : Int32) ↔ f = 2 := nI_eq (b := 2) (by omega) (by decide)
  have g3 : nI f = (3 : Int32) ↔ f = 3 := nI_eq (b := 3) (by omega) (by decide)
  have g4 : nI f = (4 : Int32) ↔ f = 4 := nI_eq (b := 4) (by omega) (by decide)
  have g5 : nI f = (5 : Int32) ↔ f = 5 := nI_eq (b := 5) (by omega) (by decide)
  have g7 : nI f = (7 : Int32) ↔ f = 7 := nI_eq (b := 7) (by omega) (by decide)
  have g12 : nI f = (12 : Int32) ↔ f = 12 := nI_eq (b := 12) (by omega) (by decide)
  have l2 : nI f < (2 : Int32) ↔ f < 2 := nI_ltI (b := 2) (by omega) (by decide)
  have l3 : nI f < (3 : Int32) ↔ f < 3 := nI_ltI (b := 3) (by omega) (by decide)
  have l4 : nI f < (4 : Int32) ↔ f < 4 := nI_ltI (b := 4) (by omega) (by decide)
  have l5 : nI f < (5 : Int32) ↔ f < 5 := nI_ltI (b := 5) (by omega) (by decide)
  have l7 : nI f < (7 : Int32) ↔ f < 7 := nI_ltI (b := 7) (by omega) (by decide)
  have l12 : nI f < (12 : Int32) ↔ f < 12 := nI_ltI (b := 12) (by omega) (by decide)
  simp only [B216_0, B216_114, B216_151, B216_174, B216_187, B216_209, B216_244, B216_268, B216_299, B216_310, B216_324, B216_339, B216_346, B216_378, c0, c1, c2, c3, c4, c5, c6, c7, c8, c9, c10, e0, e1, e2, e3, e4, e5, e6, e7, e8, e9, e10, g0, g1, g2, g3, g4, g5, g7, g12, l2, l3, l4, l5, l7, l12]
  simp only [mostv, ite_some]
/-- may a value stand there -/
def mbv (a c : Nat) (v : Int32) : Int32 := if v < leastv a c then 0 else if mostv a c < v then 0 else 1
theorem mb_c {a c : Nat} (ha : a < 12) (hc : c < fieldsN.getD a 0) (v : Int32) (o3 : Option Value) : jv d 190 0 [some (.int (nI a)), some (.int (nI c)), some (.int v), o3] [] (shC, I, L, pX pa pb pu pw) = some (some (.int (mbv a c v)), (shC, I, L, pX pa pb pu pw)) := by
  have h14 := tab_F14 a ha
  have hi := tab_fl a ha c (by omega) hc
  unfold mbv
  rw [B190_0, if_pos (j_in_nI (by omega) (by decide)), nI_clamp (by omega), tz4 a (by omega), nI_add, if_pos (show nI _ < (78 : Int32) from nI_lt hi (by decide)), if_pos (j_in_nI hi (by decide)), nI_clamp (by omega), tzL a ha c (by omega) hc, tzM a ha c (by omega) hc]
  by_cases h1 : v < leastv a c
  · rw [if_pos h1, if_pos h1, B190_38, B190_39, if_pos nb0]
  · rw [if_neg h1, if_neg h1, if_pos (j_in_nI hi (by decide))]
    by_cases h2 : mostv a c < v
    · rw [if_pos h2, if_pos h2, B190_38, B190_39, if_pos nb0]
    · rw [if_neg h2, if_neg h2, B190_39, if_pos nb1]
end MOST
set_option maxRecDepth 100000 in
set_option maxHeartbeats 2000000 in
theorem ar_put (x t r f v : Int32) : ∃ w : Int32, jEnds 169 [.int x, .int t, .int r, .int f, .int v] SC0 (.int w) ∧ jEnds 223 [.int x, .int t, .int r, .int f, .int v] SR0 (.int w) := by
  have hc := rI0_cst
  by_cases h0 : x < 0
  · exact ⟨-1, ends_c0 rfl (fun d => (show jv (d + 6) 169 0 [some (.ref 0), some (.int x), some (.int t), some (.int r), some (.int f), some (.int v)] [] SC0 = some (some (.int (-1)), SC0) from by simp (decide := true) only [SC0, fc_0_11, B169_0_u, g_per_c, perv, B169_4_u, B169_34_u, h0, ↓reduceIte, Option.toList_some, List.cons_append, List.nil_append, List.append_nil])), ends_r0 rfl (fun d => (show jv (d + 6) 223 0 [some (.ref 0), some (.int x), some (.int t), some (.int r), some (.int f), some (.int v)] [] SR0 = some (some (.int (-1)), SR0) from by simp (decide := true) only [SR0, fr_0_18, B223_0, g_per_r, perv, B223_4, B223_46, h0, ↓reduceIte, Option.toList_some, List.cons_append, List.nil_append, List.append_nil]))⟩
  by_cases h1 : x < 3
  · by_cases h2 : t = 12
    · rcases i_three h0 h1 with rfl | rfl | rfl
      · exact ⟨-1, ends_c0 rfl (fun d => (show jv (d + 6) 169 0 [some (.ref 0), some (.int 0), some (.int t), some (.int r), some (.int f), some (.int v)] [] SC0 = some (some (.int (-1)), SC0) from by simp (decide := true) only [SC0, fc_0_11, B169_0_p0, g_per_c, perv, B169_4_p0, B169_34_p0, h2, ↓reduceIte, Option.toList_some, List.cons_append, List.nil_append, List.append_nil])), ends_r0 rfl (fun d => (show jv (d + 6) 223 0 [some (.ref 0), some (.int 0), some (.int t), some (.int r), some (.int f), some (.int v)] [] SR0 = some (some (.int (-1)), SR0) from by simp (decide := true) only [SR0, fr_0_18, B223_0, g_per_r, perv, B223_4, B223_46, h2, ↓reduceIte, Option.toList_some, List.cons_append, List.nil_append, List.append_nil]))⟩
      · exact ⟨-1, ends_c0 rfl (fun d => (show jv (d + 6) 169 0 [some (.ref 0), some (.int 1), some (.int t), some (.int r), some (.int f), some (.int v)] [] SC0 = some (some (.int (-1)), SC0) from by simp (decide := true) only [SC0, fc_0_11, B169_0_p1, g_per_c, perv, B169_4_p1, B169_34_p1, h2, ↓reduceIte, Option.toList_some, List.cons_append, List.nil_append, List.append_nil])), ends_r0 rfl (fun d => (show jv (d + 6) 223 0 [some (.ref 0), some (.int 1), some (.int t), some (.int r), some (.int f), some (.int v)] [] SR0 = some (some (.int (-1)), SR0) from by simp (decide := true) only [SR0, fr_0_18, B223_0, g_per_r, perv, B223_4, B223_46, h2, ↓reduceIte, Option.toList_some, List.cons_append, List.nil_append, List.append_nil]))⟩
      · exact ⟨-1, ends_c0 rfl (fun d => (show jv (d + 6) 169 0 [some (.ref 0), some (.int 2), some (.int t), some (.int r), some (.int f), some (.int v)] [] SC0 = some (some (.int (-1)), SC0) from by simp (decide := true) only [SC0, fc_0_11, B169_0_p2, g_per_c, perv, B169_4_p2, B169_34_p2, h2, ↓reduceIte, Option.toList_some, List.cons_append, List.nil_append, List.append_nil])), ends_r0 rfl (fun d => (show jv (d + 6) 223 0 [some (.ref 0), some (.int 2), some (.int t), some (.int r), some (.int f), some (.int v)] [] SR0 = some (some (.int (-1)), SR0) from by simp (decide := true) only [SR0, fr_0_18, B223_0, g_per_r, perv, B223_4, B223_46, h2, ↓reduceIte, Option.toList_some, List.cons_append, List.nil_append, List.append_nil]))⟩
    by_cases h3 : plv t r f = 0
    · rcases i_three h0 h1 with rfl | rfl | rfl
      · exact ⟨-1, ends_c0 rfl (fun d => (show jv (d + 6) 169 0 [some (.ref 0), some (.int 0), some (.int t), some (.int r), some (.int f), some (.int v)] [] SC0 = some (some (.int (-1)), SC0) from by simp (decide := true) only [SC0, fc_0_11, B169_0_p0, g_per_c, perv, B169_4_p0, g_pl_c, B169_20_p0, B169_34_p0, h2, h3, ↓reduceIte, Option.toList_some, List.cons_append, List.nil_append, List.append_nil])), ends_r0 rfl (fun d => (show jv (d + 6) 223 0 [some (.ref 0), some (.int 0), some (.int t), some (.int r), some (.int f), some (.int v)] [] SR0 = some (some (.int (-1)), SR0) from by simp (decide := true) only [SR0, fr_0_18, B223_0, g_per_r, perv, B223_4, g_pl_r hc, B223_21, B223_46, h2, h3, ↓reduceIte, Option.toList_some, List.cons_append, List.nil_append, List.append_nil]))⟩
      · exact ⟨-1, ends_c0 rfl (fun d => (show jv (d + 6) 169 0 [some (.ref 0), some (.int 1), some (.int t), some (.int r), some (.int f), some (.int v)] [] SC0 = some (some (.int (-1)), SC0) from by simp (decide := true) only [SC0, fc_0_11, B169_0_p1, g_per_c, perv, B169_4_p1, g_pl_c, B169_20_p1, B169_34_p1, h2, h3, ↓reduceIte, Option.toList_some, List.cons_append, List.nil_append, List.append_nil])), ends_r0 rfl (fun d => (show jv (d + 6) 223 0 [some (.ref 0), some (.int 1), some (.int t), some (.int r), some (.int f), some (.int v)] [] SR0 = some (some (.int (-1)), SR0) from by simp (decide := true) only [SR0, fr_0_18, B223_0, g_per_r, perv, B223_4, g_pl_r hc, B223_21, B223_46, h2, h3, ↓reduceIte, Option.toList_some, List.cons_append, List.nil_append, List.append_nil]))⟩
      · exact ⟨-1, ends_c0 rfl (fun d => (show jv (d + 6) 169 0 [some (.ref 0), some (.int 2), some (.int t), some (.int r), some (.int f), some (.int v)] [] SC0 = some (some (.int (-1)), SC0) from by simp (decide := true) only [SC0, fc_0_11, B169_0_p2, g_per_c, perv, B169_4_p2, g_pl_c, B169_20_p2, B169_34_p2, h2, h3, ↓reduceIte, Option.toList_some, List.cons_append, List.nil_append, List.append_nil])), ends_r0 rfl (fun d => (show jv (d + 6) 223 0 [some (.ref 0), some (.int 2), some (.int t), some (.int r), some (.int f), some (.int v)] [] SR0 = some (some (.int (-1)), SR0) from by simp (decide := true) only [SR0, fr_0_18, B223_0, g_per_r, perv, B223_4, g_pl_r hc, B223_21, B223_46, h2, h3, ↓reduceIte, Option.toList_some, List.cons_append, List.nil_append, List.append_nil]))⟩
    obtain ⟨a, b, c, ha, hb, hf, rfl, rfl, rfl⟩ := plv_1 h3
    have ha2 : a < 12 := by
      rcases Nat.lt_or_ge a 12 with q | q
      · exact q
      · exact absurd (by rw [show a = 12 by omega]; rfl) h2
    have h14 := tab_F14 a ha2
    have gm : ∀ (d : Nat) K, jgo jTT jMM (d + 6) 190 [.int (nI a), .int (nI c), .int v] (shC, i3f, l3f, pX (some 38) (some 49) none none) K = K (some (.int (mbv a c v))) (shC, i3f, l3f, pX (some 38) (some 49) none none) := fun d K => jgo_some rfl (mb_c ha2 hf v none)
    have gl : ∀ (d : Nat) K, jgo jTT jMM (d + 6) 215 [.int (nI a), .int (nI c)] (shR, rI0, (fun _ _ => 0), pR) K = K (some (.int (leastv a c))) (shR, rI0, (fun _ _ => 0), pR) := fun d K => jgo_some rfl (least_ok ha (by omega))
    have gh : ∀ (d : Nat) K, jgo jTT jMM (d + 6) 216 [.int (nI a), .int (nI c)] (shR, rI0, (fun _ _ => 0), pR) K = K (some (.int (mostv a c))) (shR, rI0, (fun _ _ => 0), pR) := fun d K => jgo_some rfl (most_ok ha (by omega))
    by_cases h4 : v < leastv a c
    · rcases i_three h0 h1 with rfl | rfl | rfl
      · exact ⟨-1, ends_c0 rfl (fun d => (show jv (d + 6) 169 0 [some (.ref 0), some (.int 0), some (.int (nI a)), some (.int (nI b)), some (.int (nI c)), some (.int v)] [] SC0 = some (some (.int (-1)), SC0) from by simp (decide := true) only [SC0, fc_0_11, B169_0_p0, g_per_c, perv, B169_4_p0, g_pl_c, B169_20_p0, gm, mbv, B169_31_p0, B169_34_p0, fc_8_0, h2, h3, h4, ↓reduceIte, Option.toList_some, List.cons_append, List.nil_append, List.append_nil])), ends_r0 rfl (fun d => (show jv (d + 6) 223 0 [some (.ref 0), some (.int 0), some (.int (nI a)), some (.int (nI b)), some (.int (nI c)), some (.int v)] [] SR0 = some (some (.int (-1)), SR0) from by simp (decide := true) only [SR0, fr_0_18, B223_0, g_per_r, perv, B223_4, g_pl_r hc, B223_21, gl, B223_32, gh, B223_43, B223_46, fr_9, h2, h3, h4, ↓reduceIte, Option.toList_some, List.cons_append, List.nil_append, List.append_nil]))⟩
      · exact ⟨-1, ends_c0 rfl (fun d => (show jv (d + 6) 169 0 [some (.ref 0), some (.int 1), some (.int (nI a)), some (.int (nI b)), some (.int (nI c)), some (.int v)] [] SC0 = some (some (.int (-1)), SC0) from by simp (decide := true) only [SC0, fc_0_11, B169_0_p1, g_per_c, perv, B169_4_p1, g_pl_c, B169_20_p1, gm, mbv, B169_31_p1, B169_34_p1, fc_13_0, h2, h3, h4, ↓reduceIte, Option.toList_some, List.cons_append, List.nil_append, List.append_nil])), ends_r0 rfl (fun d => (show jv (d + 6) 223 0 [some (.ref 0), some (.int 1), some (.int (nI a)), some (.int (nI b)), some (.int (nI c)), some (.int v)] [] SR0 = some (some (.int (-1)), SR0) from by simp (decide := true) only [SR0, fr_0_18, B223_0, g_per_r, perv, B223_4, g_pl_r hc, B223_21, gl, B223_32, gh, B223_43, B223_46, fr_9, h2, h3, h4, ↓reduceIte, Option.toList_some, List.cons_append, List.nil_append, List.append_nil]))⟩
      · exact ⟨-1, ends_c0 rfl (fun d => (show jv (d + 6) 169 0 [some (.ref 0), some (.int 2), some (.int (nI a)), some (.int (nI b)), some (.int (nI c)), some (.int v)] [] SC0 = some (some (.int (-1)), SC0) from by simp (decide := true) only [SC0, fc_0_11, B169_0_p2, g_per_c, perv, B169_4_p2, g_pl_c, B169_20_p2, gm, mbv, B169_31_p2, B169_34_p2, fc_18_0, h2, h3, h4, ↓reduceIte, Option.toList_some, List.cons_append, List.nil_append, List.append_nil])), ends_r0 rfl (fun d => (show jv (d + 6) 223 0 [some (.ref 0), some (.int 2), some (.int (nI a)), some (.int (nI b)), some (.int (nI c)), some (.int v)] [] SR0 = some (some (.int (-1)), SR0) from by simp (decide := true) only [SR0, fr_0_18, B223_0, g_per_r, perv, B223_4, g_pl_r hc, B223_21, gl, B223_32, gh, B223_43, B223_46, fr_9, h2, h3, h4, ↓reduceIte, Option.toList_some, List.cons_append, List.nil_append, List.append_nil]))⟩
    by_cases h5 : mostv a c < v
    · rcases i_three h0 h1 with rfl | rfl | rfl
      · exact ⟨-1, ends_c0 rfl (fun d => (show jv (d + 6) 169 0 [some (.ref 0), some (.int 0), some (.int (nI a)), some (.int (nI b)), some (.int (nI c)), some (.int v)] [] SC0 = some (some (.int (-1)), SC0) from by simp (decide := true) only [SC0, fc_0_11, B169_0_p0, g_per_c, perv, B169_4_p0, g_pl_c, B169_20_p0, gm, mbv, B169_31_p0, B169_34_p0, fc_8_0, h2, h3, h4, h5, ↓reduceIte, Option.toList_some, List.cons_append, List.nil_append, List.append_nil])), ends_r0 rfl (fun d => (show jv (d + 6) 223 0 [some (.ref 0), some (.int 0), some (.int (nI a)), some (.int (nI b)), some (.int (nI c)), some (.int v)] [] SR0 = some (some (.int (-1)), SR0) from by simp (decide := true) only [SR0, fr_0_18, B223_0, g_per_r, perv, B223_4, g_pl_r hc, B223_21, gl, B223_32, gh, B223_43, B223_46, fr_9, h2, h3, h4, h5, ↓reduceIte, Option.toList_some, List.cons_append, List.nil_append, List.append_nil]))⟩
      · exact ⟨-1, ends_c0 rfl (fun d => (show jv (d + 6) 169 0 [some (.ref 0), some (.int 1), some (.int (nI a)), some (.int (nI b)), some (.int (nI c)), some (.int v)] [] SC0 = some (some (.int (-1)), SC0) from by simp (decide := true) only [SC0, fc_0_11, B169_0_p1, g_per_c, perv, B169_4_p1, g_pl_c, B169_20_p1, gm, mbv, B169_31_p1, B169_34_p1, fc_13_0, h2, h3, h4, h5, ↓reduceIte, Option.toList_some, List.cons_append, List.nil_append, List.append_nil])), ends_r0 rfl (fun d => (show jv (d + 6) 223 0 [some (.ref 0), some (.int 1), some (.int (nI a)), some (.int (nI b)), some (.int (nI c)), some (.int v)] [] SR0 = some (some (.int (-1)), SR0) from by simp (decide := true) only [SR0, fr_0_18, B223_0, g_per_r, perv, B223_4, g_pl_r hc, B223_21, gl, B223_32, gh, B223_43, B223_46, fr_9, h2, h3, h4, h5, ↓reduceIte, Option.toList_some, List.cons_append, List.nil_append, List.append_nil]))⟩
      · exact ⟨-1, ends_c0 rfl (fun d => (show jv (d + 6) 169 0 [some (.ref 0), some (.int 2), some (.int (nI a)), some (.int (nI b)), some (.int (nI c)), some (.int v)] [] SC0 = some (some (.int (-1)), SC0) from by simp (decide := true) only [SC0, fc_0_11, B169_0_p2, g_per_c, perv, B169_4_p2, g_pl_c, B169_20_p2, gm, mbv, B169_31_p2, B169_34_p2, fc_18_0, h2, h3, h4, h5, ↓reduceIte, Option.toList_some, List.cons_append, List.nil_append, List.append_nil])), ends_r0 rfl (fun d => (show jv (d + 6) 223 0 [some (.ref 0), some (.int 2), some (.int (nI a)), some (.int (nI b)), some (.int (nI c)), some (.int v)] [] SR0 = some (some (.int (-1)), SR0) from by simp (decide := true) only [SR0, fr_0_18, B223_0, g_per_r, perv, B223_4, g_pl_r hc, B223_21, gl, B223_32, gh, B223_43, B223_46, fr_9, h2, h3, h4, h5, ↓reduceIte, Option.toList_some, List.cons_append, List.nil_append, List.append_nil]))⟩
    · rcases i_three h0 h1 with rfl | rfl | rfl
      · exact ⟨-2, ends_c0 rfl (fun d => (show jv (d + 6) 169 0 [some (.ref 0), some (.int 0), some (.int (nI a)), some (.int (nI b)), some (.int (nI c)), some (.int v)] [] SC0 = some (some (.int (-2)), SC0) from by simp (decide := true) only [SC0, fc_0_11, B169_0_p0, g_per_c, perv, B169_4_p0, g_pl_c, B169_20_p0, gm, mbv, B169_31_p0, B169_34_p0, fc_8_0, h2, h3, h4, h5, ↓reduceIte, Option.toList_some, List.cons_append, List.nil_append, List.append_nil])), ends_r0 rfl (fun d => (show jv (d + 6) 223 0 [some (.ref 0), some (.int 0), some (.int (nI a)), some (.int (nI b)), some (.int (nI c)), some (.int v)] [] SR0 = some (some (.int (-2)), SR0) from by simp (decide := true) only [SR0, fr_0_18, B223_0, g_per_r, perv, B223_4, g_pl_r hc, B223_21, gl, B223_32, gh, B223_43, B223_46, fr_9, h2, h3, h4, h5, ↓reduceIte, Option.toList_some, List.cons_append, List.nil_append, List.append_nil]))⟩
      · exact ⟨-2, ends_c0 rfl (fun d => (show jv (d + 6) 169 0 [some (.ref 0), some (.int 1), some (.int (nI a)), some (.int (nI b)), some (.int (nI c)), some (.int v)] [] SC0 = some (some (.int (-2)), SC0) from by simp (decide := true) only [SC0, fc_0_11, B169_0_p1, g_per_c, perv, B169_4_p1, g_pl_c, B169_20_p1, gm, mbv, B169_31_p1, B169_34_p1, fc_13_0, h2, h3, h4, h5, ↓reduceIte, Option.toList_some, List.cons_append, List.nil_append, List.append_nil])), ends_r0 rfl (fun d => (show jv (d + 6) 223 0 [some (.ref 0), some (.int 1), some (.int (nI a)), some (.int (nI b)), some (.int (nI c)), some (.int v)] [] SR0 = some (some (.int (-2)), SR0) from by simp (decide := true) only [SR0, fr_0_18, B223_0, g_per_r, perv, B223_4, g_pl_r hc, B223_21, gl, B223_32, gh, B223_43, B223_46, fr_9, h2, h3, h4, h5, ↓reduceIte, Option.toList_some, List.cons_append, List.nil_append, List.append_nil]))⟩
      · exact ⟨-2, ends_c0 rfl (fun d => (show jv (d + 6) 169 0 [some (.ref 0), some (.int 2), some (.int (nI a)), some (.int (nI b)), some (.int (nI c)), some (.int v)] [] SC0 = some (some (.int (-2)), SC0) from by simp (decide := true) only [SC0, fc_0_11, B169_0_p2, g_per_c, perv, B169_4_p2, g_pl_c, B169_20_p2, gm, mbv, B169_31_p2, B169_34_p2, fc_18_0, h2, h3, h4, h5, ↓reduceIte, Option.toList_some, List.cons_append, List.nil_append, List.append_nil])), ends_r0 rfl (fun d => (show jv (d + 6) 223 0 [some (.ref 0), some (.int 2), some (.int (nI a)), some (.int (nI b)), some (.int (nI c)), some (.int v)] [] SR0 = some (some (.int (-2)), SR0) from by simp (decide := true) only [SR0, fr_0_18, B223_0, g_per_r, perv, B223_4, g_pl_r hc, B223_21, gl, B223_32, gh, B223_43, B223_46, fr_9, h2, h3, h4, h5, ↓reduceIte, Option.toList_some, List.cons_append, List.nil_append, List.append_nil]))⟩
  · exact ⟨-1, ends_c0 rfl (fun d => (show jv (d + 6) 169 0 [some (.ref 0), some (.int x), some (.int t), some (.int r), some (.int f), some (.int v)] [] SC0 = some (some (.int (-1)), SC0) from by simp (decide := true) only [SC0, fc_0_11, B169_0_u, g_per_c, perv, B169_4_u, B169_34_u, h0, h1, ↓reduceIte, Option.toList_some, List.cons_append, List.nil_append, List.append_nil])), ends_r0 rfl (fun d => (show jv (d + 6) 223 0 [some (.ref 0), some (.int x), some (.int t), some (.int r), some (.int f), some (.int v)] [] SR0 = some (some (.int (-1)), SR0) from by simp (decide := true) only [SR0, fr_0_18, B223_0, g_per_r, perv, B223_4, B223_46, h0, h1, ↓reduceIte, Option.toList_some, List.cons_append, List.nil_append, List.append_nil]))⟩
/-! the tape -/
def tb (a s : Int32) : Int32 := vp_nar .byte ((a >>> (s &&& 31)).toInt8.toInt32)
def t4 (f : Nat → Int32) (n : Nat) (a : Int32) : Nat → Int32 := va_up (va_up (va_up (va_up f n (tb a 24)) (n + 1) (tb a 16)) (n + 2) (tb a 8)) (n + 3) (tb a 0)
section TAPE
variable {d : Nat} {I : Nat → Nat → Int32} {L : Nat → Nat → Int64} {pa pb pu pw : Option Nat} {K : Option Value → jS → jO}
theorem va_up_at {α : Type} (f : Nat → α) (a : Nat) (g : α) : va_up f a g a = g := va_up_self _ _ _
theorem tape_c1 {f g : Nat → Int32} {n : Nat} {s : Int32} (hs : ¬ s < 0) (hn : n < 1200) (hg : g 7 = nI n) (a : Int32) : jv d 172 3 [some (.ref 0), some (.int a), some (.int s)] [] (shC, va_up (va_up I 26 f) 0 g, L, pX pa pb pu pw) = jv d 172 3 [some (.ref 0), some (.int a), some (.int (s + (-8)))] [] (shC, va_up (va_up I 26 (va_up f n (tb a s))) 0 (va_up g 7 (nI (n + 1))), L, pX pa pb pu pw) := by
  rw [B172_3, if_neg hs]
  rw [va_up_at, hg, if_pos (show nI n < (1200 : Int32) from nI_lt hn (by decide)), if_pos (j_in_nI hn (by decide)), nI_clamp (by omega), j_up_va_ne _ (by decide), j_up_va_self, j_up_va_self, va_up_at, hg, nI_1]
  rfl
theorem tape_c {n : Nat} (h : I 0 7 = nI n) (hn : n + 4 ≤ 1200) (a : Int32) (o2 : Option Value) : jv d 172 0 [some (.ref 0), some (.int a), o2] [] (shC, I, L, pX pa pb pu pw) = some (none, (shC, va_up (va_up I 26 (t4 (I 26) n a)) 0 (va_up (I 0) 7 (nI (n + 4))), L, pX pa pb pu pw)) := by
  have e : I = va_up (va_up I 26 (I 26)) 0 (I 0) := by
    rw [va_up_same]
    exact (va_up_same I 0).symm
  rw [B172_0]
  conv => lhs; rw [e]
  rw [tape_c1 (n := n) (by decide) (by omega) h, show (24 : Int32) + (-8) = 16 from rfl]
  rw [tape_c1 (n := n + 1) (by decide) (by omega) (va_up_at _ _ _), show (16 : Int32) + (-8) = 8 from rfl]
  rw [tape_c1 (n := n + 1 + 1) (by decide) (by omega) (va_up_at _ _ _), show (8 : Int32) + (-8) = 0 from rfl]
  rw [tape_c1 (n := n + 1 + 1 + 1) (by decide) (by omega) (va_up_at _ _ _), show (0 : Int32) + (-8) = -8 from rfl]
  rw [B172_3, if_pos (by decide), B172_46, va_up_up, va_up_up, va_up_up]
  rfl
theorem tape_r1 {f g : Nat → Int32} {n : Nat} {s : Int32} (hs : ¬ s < 0) (hn : n < 1200) (hg : g 20 = nI n) (a : Int32) : jv d 226 3 [some (.ref 0), some (.int a), some (.int s)] [] (shR, va_up (va_up I 17 f) 0 g, L, pR) = jv d 226 3 [some (.ref 0), some (.int a), some (.int (s + (-8)))] [] (shR, va_up (va_up I 17 (va_up f n (tb a s))) 0 (va_up g 20 (nI (n + 1))), L, pR) := by
  rw [B226_3, if_neg hs]
  rw [va_up_at, hg, if_pos (j_in_nI hn (by decide)), nI_clamp (by omega), j_up_va_ne _ (by decide), j_up_va_self, j_up_va_self, va_up_at, hg, nI_1]
  rfl
theorem tape_r {n : Nat} (h : I 0 20 = nI n) (hn : n + 4 ≤ 1200) (a : Int32) (o2 : Option Value) : jv d 226 0 [some (.ref 0), some (.int a), o2] [] (shR, I, L, pR) = some (none, (shR, va_up (va_up I 17 (t4 (I 17) n a)) 0 (va_up (I 0) 20 (nI (n + 4))), L, pR)) := by
  have e : I = va_up (va_up I 17 (I 17)) 0 (I 0) := by
    rw [va_up_same]
    exact (va_up_same I 0).symm
  rw [B226_0]
  conv => lhs; rw [e]
  rw [tape_r1 (n := n) (by decide) (by omega) h, show (24 : Int32) + (-8) = 16 from rfl]
  rw [tape_r1 (n := n + 1) (by decide) (by omega) (va_up_at _ _ _), show (16 : Int32) + (-8) = 8 from rfl]
  rw [tape_r1 (n := n + 1 + 1) (by decide) (by omega) (va_up_at _ _ _), show (8 : Int32) + (-8) = 0 from rfl]
  rw [tape_r1 (n := n + 1 + 1 + 1) (by decide) (by omega) (va_up_at _ _ _), show (0 : Int32) + (-8) = -8 from rfl]
  rw [B226_3, if_pos (by decide), va_up_up, va_up_up, va_up_up]
  rfl
/-- twenty bytes more -/
def f20 (I : Nat → Nat → Int32) (b q n : Nat) (a1 a2 a3 a4 a5 : Int32) : Nat → Nat → Int32 := va_up (va_up I b (t4 (t4 (t4 (t4 (t4 (I b) n a1) (n + 4) a2) (n + 8) a3) (n + 12) a4) (n + 16) a5)) 0 (va_up (I 0) q (nI (n + 20)))
theorem tp_up {I : Nat → Nat → Int32} {b q : Nat} {f : Nat → Int32} {z w : Int32} {g : Nat → Int32} (hb : b ≠ 0) : va_up (va_up (va_up (va_up I b f) 0 (va_up (I 0) q z)) b g) 0 (va_up (va_up (I 0) q z) q w) = va_up (va_up I b g) 0 (va_up (I 0) q w) := by
  rw [va_up_up]
  funext c
  by_cases h0 : c = 0
  · rw [h0, va_up_self, va_up_self]
  · rw [va_up_ne _ _ h0, va_up_ne _ _ h0]
    by_cases hc : c = b
    · rw [hc, va_up_self, va_up_self]
    · rw [va_up_ne _ _ hc, va_up_ne _ _ h0, va_up_ne _ _ hc, va_up_ne _ _ hc]
theorem feed_c {n : Nat} (h : I 0 7 = nI n) (hn : n + 20 ≤ 1200) (a1 a2 a3 a4 a5 : Int32) : jv (d + 1) 171 0 [some (.ref 0), some (.int a1), some (.int a2), some (.int a3), some (.int a4), some (.int a5)] [] (shC, I, L, pX pa pb pu pw) = some (some (.int (nI (n + 20))), (shC, f20 I 26 7 n a1 a2 a3 a4 a5, L, pX pa pb pu pw)) := by
  have g : ∀ (I : Nat → Nat → Int32) (n : Nat) (a : Int32) (K : Option Value → jS → jO), I 0 7 = nI n → n + 4 ≤ 1200 → jgo jTT jMM (d + 1) 172 [.ref 0, .int a] (shC, I, L, pX pa pb pu pw) K = K none (shC, va_up (va_up I 26 (t4 (I 26) n a)) 0 (va_up (I 0) 7 (nI (n + 4))), L, pX pa pb pu pw) := fun I n a K h hn => jgo_some rfl (tape_c h hn a none)
  have r0 : ∀ (X : Nat → Nat → Int32) (f : Nat → Int32), va_up X 0 f 0 = f := fun X f => va_up_at _ _ _
  have r26 : ∀ (X : Nat → Nat → Int32) (f g : Nat → Int32), va_up (va_up X 26 f) 0 g 26 = f := fun X f g => by rw [va_up_ne _ _ (by decide), va_up_at]
  rw [B171_0, h, show nI n + 20 = nI (n + 20) from nI_add n 20, if_neg (show ¬ (1200 : Int32) < nI (n + 20) from nI_nlt (a := 1200) (by omega) (by decide))]
  rw [g I n a1 _ h (by omega)]
  dsimp only [Option.toList_none, List.nil_append]
  rw [B171_21, g _ (n + 4) a2 _ (by rw [r0, va_up_at]) (by omega)]
  dsimp only [Option.toList_none, List.nil_append]
  rw [r26, r0, tp_up (by decide), B171_26, g _ (n + 8) a3 _ (by rw [r0, va_up_at]) (by omega)]
  dsimp only [Option.toList_none, List.nil_append]
  rw [r26, r0, tp_up (by decide), B171_31, g _ (n + 12) a4 _ (by rw [r0, va_up_at]) (by omega)]
  dsimp only [Option.toList_none, List.nil_append]
  rw [r26, r0, tp_up (by decide), B171_37, g _ (n + 16) a5 _ (by rw [r0, va_up_at]) (by omega)]
  dsimp only [Option.toList_none, List.nil_append]
  rw [r26, r0, tp_up (by decide), B171_43, r0, va_up_at]
  rfl
theorem feed_r {n : Nat} (h : I 0 20 = nI n) (hn : n + 20 ≤ 1200) (a1 a2 a3 a4 a5 : Int32) : jv (d + 1) 225 0 [some (.ref 0), some (.int a1), some (.int a2), some (.int a3), some (.int a4), some (.int a5)] [] (shR, I, L, pR) = some (some (.int (nI (n + 20))), (shR, f20 I 17 20 n a1 a2 a3 a4 a5, L, pR)) := by
  have g : ∀ (I : Nat → Nat → Int32) (n : Nat) (a : Int32) (K : Option Value → jS → jO), I 0 20 = nI n → n + 4 ≤ 1200 → jgo jTT jMM (d + 1) 226 [.ref 0, .int a] (shR, I, L, pR) K = K none (shR, va_up (va_up I 17 (t4 (I 17) n a)) 0 (va_up (I 0) 20 (nI (n + 4))), L, pR) := fun I n a K h hn => jgo_some rfl (tape_r h hn a none)
  have r0 : ∀ (X : Nat → Nat → Int32) (f : Nat → Int32), va_up X 0 f 0 = f := fun X f => va_up_at _ _ _
  have r17 : ∀ (X : Nat → Nat → Int32) (f g : Nat → Int32), va_up (va_up X 17 f) 0 g 17 = f := fun X f g => by rw [va_up_ne _ _ (by decide), va_up_at]
  rw [B225_0, h, show nI n + 20 = nI (n + 20) from nI_add n 20, if_neg (show ¬ (1200 : Int32) < nI (n + 20) from nI_nlt (a := 1200) (by omega) (by decide))]
  rw [g I n a1 _ h (by omega)]
  dsimp only [Option.toList_none, List.nil_append]
  rw [B225_21, g _ (n + 4) a2 _ (by rw [r0, va_up_at]) (by omega)]
  dsimp only [Option.toList_none, List.nil_append]
  rw [r17, r0, tp_up (by decide), B225_26, g _ (n + 8) a3 _ (by rw [r0, va_up_at]) (by omega)]
  dsimp only [Option.toList_none, List.nil_append]
  rw [r17, r0, tp_up (by decide), B225_31, g _ (n + 12) a4 _ (by rw [r0, va_up_at]) (by omega)]
  dsimp only [Option.toList_none, List.nil_append]
  rw [r17, r0, tp_up (by decide), B225_37, g _ (n + 16) a5 _ (by rw [r0, va_up_at]) (by omega)]
  dsimp only [Option.toList_none, List.nil_append]
  rw [r17, r0, tp_up (by decide), B225_43, r0, va_up_at]
  rfl
end TAPE
theorem ar_feed (x y z u v : Int32) : ∃ w : Int32, jEnds 171 [.int x, .int y, .int z, .int u, .int v] SC0 (.int w) ∧ jEnds 225 [.int x, .int y, .int z, .int u, .int v] SR0 (.int w) := ⟨nI 20, ends_c rfl (fun d => feed_c (n := 0) rfl (by decide) x y z u v), ends_r rfl (fun d => feed_r (n := 0) rfl (by decide) x y z u v)⟩
