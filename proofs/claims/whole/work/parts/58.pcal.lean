/-! THE PERSONS' CALLS: open, put, get, leave -/
theorem cl_0 : (0 : Int32).toNatClampNeg = 0 := rfl
theorem cl_1 : (1 : Int32).toNatClampNeg = 1 := rfl
theorem cl_2 : (2 : Int32).toNatClampNeg = 2 := rfl
theorem jin_03 : j_in 0 3 = true := by decide
theorem jin_13 : j_in 1 3 = true := by decide
theorem jin_23 : j_in 2 3 = true := by decide
theorem i01_ne {x : Int32} (h : i01 x) (h0 : ¬ x = 0) : x = 1 := h.resolve_left h0
def opJ (p : Nat) (J : Nat → Nat → Int32) : Nat → Nat → Int32 := j_up (j_up (endJ p J) 9 p 1) 10 p (J 0 15)
theorem opJ_15 (p : Nat) (J : Nat → Nat → Int32) : j_up (j_up (endJ p J) 9 p 1) 10 p (j_up (endJ p J) 9 p 1 0 15) = opJ p J := by
  unfold opJ
  rw [j_up_cell (endJ p J) (show (0 : Nat) ≠ 9 by decide), endJ_o p J (by decide) (by decide) (by decide) (by decide)]
theorem opJ_o (p : Nat) (J : Nat → Nat → Int32) {c : Nat} (h0 : c ≠ 10) (h1 : c ≠ 9) (h2 : c ≠ 11) (h3 : c ≠ 12) (h4 : c ≠ 13) : opJ p J c = J c := by
  unfold opJ
  rw [j_up_cell _ h0, j_up_cell _ h1, endJ_o p J h1 h2 h3 h4]
/-- a get marks the row -/
def seJ (p r : Nat) (J : Nat → Nat → Int32) : Nat → Nat → Int32 := j_up J 11 (p * 148 + r) 1
section PCALL
variable {d e : Nat} {I J : Nat → Nat → Int32} {L L' : Nat → Nat → Int64} {pa pb pu pw : Option Nat} {K : Option Value → jS → jO}
theorem g_place {a b c : Nat} (ha : a < 13) (hb : b < rowsN.getD a 0) (hc : c < fieldsN.getD a 0) : jgo jTT jMM (d + 1) 191 [.int (nI a), .int (nI b), .int (nI c)] (shC, I, L, pX pa pb pu pw) K = K (some (.int (nI (fpN.getD a 0 + b * fieldsN.getD a 0 + c)))) (shC, I, L, pX pa pb pu pw) := by
  refine jgo_some rfl ?_
  show jv d 191 0 [some (.int (nI a)), some (.int (nI b)), some (.int (nI c))] [] (shC, I, L, pX pa pb pu pw) = _
  have hx : j_in (nI a) 13 = true := j_in_nI ha (by decide)
  rw [B191_0, if_pos hx, if_pos hx, nI_clamp (by omega), tz3 a ha, tz1 a ha, nI_mul, nI_add, nI_add]
theorem g_mb {a c : Nat} (ha : a < 12) (hc : c < fieldsN.getD a 0) (v : Int32) : jgo jTT jMM (d + 1) 190 [.int (nI a), .int (nI c), .int v] (shC, I, L, pX pa pb pu pw) K = K (some (.int (mbv a c v))) (shC, I, L, pX pa pb pu pw) := jgo_some rfl (mb_c ha hc v none)
theorem g_least {a c : Nat} (ha : a < 13) (hc : c < 400) : jgo jTT jMM (d + 1) 215 [.int (nI a), .int (nI c)] (shR, I, L, pR) K = K (some (.int (leastv a c))) (shR, I, L, pR) := jgo_some rfl (least_ok ha hc)
theorem g_most {a c : Nat} (ha : a < 13) (hc : c < 400) : jgo jTT jMM (d + 1) 216 [.int (nI a), .int (nI c)] (shR, I, L, pR) K = K (some (.int (mostv a c))) (shR, I, L, pR) := jgo_some rfl (most_ok ha hc)
theorem g_atN (h : rCst I) {a b c : Nat} (ha : a < 13) : jgo jTT jMM (d + 1) 214 [.ref 0, .int (nI a), .int (nI b), .int (nI c)] (shR, I, L, pR) K = K (some (.int (nI (fpN.getD a 0 + b * fieldsN.getD a 0 + c)))) (shR, I, L, pR) := jgo_some rfl (at_ok h ha b c)
theorem fr_row {a b : Nat} (ha : a < 13) : z_2.getD (nI a).toNatClampNeg 0 + nI b = nI (frN.getD a 0 + b) := by rw [nI_clamp (by omega), tz2 a ha, nI_add]
theorem g_end_r0 : jgo jTT jMM (d + 1) 221 [.ref 0, .int 0] (shR, J, L', pR) K = K none (shR, endJ 0 J, L', pR) := g_end_r (p := 0) (by decide)
theorem g_begin_8 (c : Int32) : jgo jTT jMM (d + 2) 70 [.ref 8, .int c] (shC, I, L, pX pa pb pu pw) K = K none (shC, bgI8 I c, L, pX pa pb pu pw) := jgo_some rfl (begin_8 c)
theorem g_rows_8 : jgo jTT jMM (d + 1) 75 [.ref 8] (shC, I, L, pX pa pb pu pw) K = K (some (.int (l_sm (I 12) 148))) (shC, I, L, pX pa pb pu pw) := jgo_some rfl (rows_8 none none)
theorem bgI8_o (c : Int32) {x : Nat} (h1 : x ≠ 8) (h2 : x ≠ 10) (h3 : x ≠ 11) (h4 : x ≠ 12) : bgI8 I c x = I x := by
  unfold bgI8
  rw [va_up_ne _ _ h4, va_up_ne _ _ h3, va_up_ne _ _ h2, j_up_cell _ h1, j_up_cell _ h1]
theorem bgI8_b (c : Int32) (f : Nat) : bgI8 I c 8 f = if f = 1 then c else if f = 0 then 1 else I 8 f := by
  unfold bgI8
  rw [va_up_ne _ _ (by decide), va_up_ne _ _ (by decide), va_up_ne _ _ (by decide), j_up_own, j_up_own]
theorem bgI8_s (c : Int32) {q : Nat} (hq : q < 1189) : bgI8 I c 10 q = 0 := by
  unfold bgI8
  rw [va_up_ne _ _ (by decide), va_up_ne _ _ (by decide), va_up_self]
  unfold j_fill
  rw [if_pos hq]
theorem bgI8_e (c : Int32) {q : Nat} (hq : q < 148) : bgI8 I c 11 q = 0 := by
  unfold bgI8
  rw [va_up_ne _ _ (by decide), va_up_self]
  unfold j_fill
  rw [if_pos hq]
theorem bgI8_w (c : Int32) {q : Nat} (hq : q < 148) : bgI8 I c 12 q = 0 := by
  unfold bgI8
  rw [va_up_self]
  unfold j_fill
  rw [if_pos hq]
/-- a transaction begins -/
theorem beg_0 (c : Int32) (hc : c = J 0 15) : perRel 0 8 (bgI8 I c) (opJ 0 J) := by
  have o9 : opJ 0 J 9 0 = 1 := by unfold opJ; rw [j_up_cell _ (by decide), j_up_own, if_pos rfl]
  have oc : ∀ x, x ≠ 10 → x ≠ 9 → opJ 0 J x = endJ 0 J x := fun x h1 h2 => by unfold opJ; rw [j_up_cell _ h1, j_up_cell _ h2]
  refine ⟨by rw [bgI8_b, o9]; rfl, Or.inr o9, fun _ => ⟨?_, fun q hq => ?_, fun r hr => ?_⟩⟩
  · rw [bgI8_b, if_pos rfl, hc]; unfold opJ; rw [j_up_own, if_pos rfl]
  · rw [bgI8_s c hq, oc 13 (by decide) (by decide), endJ_13, clr_in (by omega)]
    exact ⟨rfl, Or.inl rfl, fun z => absurd z (by decide)⟩
  · rw [bgI8_w c hr, bgI8_e c hr, oc 12 (by decide) (by decide), oc 11 (by decide) (by decide), endJ_12, endJ_11, clr_in (by omega), clr_in (by omega)]
    exact ⟨rfl, Or.inl rfl, Or.inl rfl, rfl⟩
theorem open_0 (h : perRel 0 8 I J) (h0 : I 0 11 = J 0 18) (h8 : I 0 8 = J 0 15) : jAsk (jv (d + 3) 168 0 [some (.ref 0), some (.int 0)] [] (shC, I, L, pX pa pb pu pw)) (jv (e + 1) 220 0 [some (.ref 0), some (.int 0)] [] (shR, J, L', pR)) (shC, I, L, pX pa pb pu pw) (shR, J, L', pR) ∨ jAsk (jv (d + 3) 168 0 [some (.ref 0), some (.int 0)] [] (shC, I, L, pX pa pb pu pw)) (jv (e + 1) 220 0 [some (.ref 0), some (.int 0)] [] (shR, J, L', pR)) (shC, bgI8 I (I 0 8), L, pX pa pb pu pw) (shR, opJ 0 J, L', pR) := by
  obtain ⟨q1, q2, q3⟩ := h
  by_cases hd : I 0 11 = 0
  · have hd' : J 0 18 = 0 := h0 ▸ hd
    by_cases hb : I 8 0 = 0
    · right
      have hb' : J 9 0 = 0 := q1 ▸ hb
      have z : bgI8 I (I 0 8) 0 8 = I 0 8 := by rw [bgI8_o _ (by decide) (by decide) (by decide) (by decide)]
      refine ⟨.int (I 0 8), ?_, ?_⟩
      · simp (decide := true) only [B168_0_p0, g_per_c, perv, B168_4_p0, hd, hb, g_begin_8, B168_47_p0, z, jin_03, ↓reduceIte, Option.toList_some, Option.toList_none, List.cons_append, List.nil_append, List.append_nil]
      · simp (decide := true) only [B220_0, g_per_r, perv, B220_4, hd', hb', g_end_r0, B220_36, nb1, cl_0, jin_03, opJ_15, ↓reduceIte, Option.toList_some, Option.toList_none, List.cons_append, List.nil_append, List.append_nil]
        rw [opJ_o 0 J (by decide) (by decide) (by decide) (by decide) (by decide), h8]
    · left
      have hb' : ¬ J 9 0 = 0 := q1 ▸ hb
      refine ⟨.int (-2), ?_, ?_⟩
      · simp (decide := true) only [B168_0_p0, g_per_c, perv, B168_4_p0, hd, hb, jin_03, ↓reduceIte, Option.toList_some, Option.toList_none, List.cons_append, List.nil_append, List.append_nil]
      · simp (decide := true) only [B220_0, g_per_r, perv, B220_4, hd', hb', cl_0, jin_03, ↓reduceIte, Option.toList_some, Option.toList_none, List.cons_append, List.nil_append, List.append_nil]
  · left
    have hd' : ¬ J 0 18 = 0 := h0 ▸ hd
    refine ⟨.int (-3), ?_, ?_⟩
    · simp (decide := true) only [B168_0_p0, g_per_c, perv, B168_4_p0, hd, ↓reduceIte, Option.toList_some, Option.toList_none, List.cons_append, List.nil_append, List.append_nil]
    · simp (decide := true) only [B220_0, g_per_r, perv, B220_4, hd', ↓reduceIte, Option.toList_some, Option.toList_none, List.cons_append, List.nil_append, List.append_nil]
theorem g_end_r1 : jgo jTT jMM (d + 1) 221 [.ref 0, .int 1] (shR, J, L', pR) K = K none (shR, endJ 1 J, L', pR) := g_end_r (p := 1) (by decide)
theorem g_begin_13 (c : Int32) : jgo jTT jMM (d + 2) 70 [.ref 13, .int c] (shC, I, L, pX pa pb pu pw) K = K none (shC, bgI13 I c, L, pX pa pb pu pw) := jgo_some rfl (begin_13 c)
theorem g_rows_13 : jgo jTT jMM (d + 1) 75 [.ref 13] (shC, I, L, pX pa pb pu pw) K = K (some (.int (l_sm (I 17) 148))) (shC, I, L, pX pa pb pu pw) := jgo_some rfl (rows_13 none none)
theorem bgI13_o (c : Int32) {x : Nat} (h1 : x ≠ 13) (h2 : x ≠ 15) (h3 : x ≠ 16) (h4 : x ≠ 17) : bgI13 I c x = I x := by
  unfold bgI13
  rw [va_up_ne _ _ h4, va_up_ne _ _ h3, va_up_ne _ _ h2, j_up_cell _ h1, j_up_cell _ h1]
theorem bgI13_b (c : Int32) (f : Nat) : bgI13 I c 13 f = if f = 1 then c else if f = 0 then 1 else I 13 f := by
  unfold bgI13
  rw [va_up_ne _ _ (by decide), va_up_ne _ _ (by decide), va_up_ne _ _ (by decide), j_up_own, j_up_own]
theorem bgI13_s (c : Int32) {q : Nat} (hq : q < 1189) : bgI13 I c 15 q = 0 := by
  unfold bgI13
  rw [va_up_ne _ _ (by decide), va_up_ne _ _ (by decide), va_up_self]
  unfold j_fill
  rw [if_pos hq]
theorem bgI13_e (c : Int32) {q : Nat} (hq : q < 148) : bgI13 I c 16 q = 0 := by
  unfold bgI13
  rw [va_up_ne _ _ (by decide), va_up_self]
  unfold j_fill
  rw [if_pos hq]
theorem bgI13_w (c : Int32) {q : Nat} (hq : q < 148) : bgI13 I c 17 q = 0 := by
  unfold bgI13
  rw [va_up_self]
  unfold j_fill
  rw [if_pos hq]
/-- a transaction begins -/
theorem beg_1 (c : Int32) (hc : c = J 0 15) : perRel 1 13 (bgI13 I c) (opJ 1 J) := by
  have o9 : opJ 1 J 9 1 = 1 := by unfold opJ; rw [j_up_cell _ (by decide), j_up_own, if_pos rfl]
  have oc : ∀ x, x ≠ 10 → x ≠ 9 → opJ 1 J x = endJ 1 J x := fun x h1 h2 => by unfold opJ; rw [j_up_cell _ h1, j_up_cell _ h2]
  refine ⟨by rw [bgI13_b, o9]; rfl, Or.inr o9, fun _ => ⟨?_, fun q hq => ?_, fun r hr => ?_⟩⟩
  · rw [bgI13_b, if_pos rfl, hc]; unfold opJ; rw [j_up_own, if_pos rfl]
  · rw [bgI13_s c hq, oc 13 (by decide) (by decide), endJ_13, clr_in (by omega)]
    exact ⟨rfl, Or.inl rfl, fun z => absurd z (by decide)⟩
  · rw [bgI13_w c hr, bgI13_e c hr, oc 12 (by decide) (by decide), oc 11 (by decide) (by decide), endJ_12, endJ_11, clr_in (by omega), clr_in (by omega)]
    exact ⟨rfl, Or.inl rfl, Or.inl rfl, rfl⟩
theorem open_1 (h : perRel 1 13 I J) (h0 : I 0 11 = J 0 18) (h8 : I 0 8 = J 0 15) : jAsk (jv (d + 3) 168 0 [some (.ref 0), some (.int 1)] [] (shC, I, L, pX pa pb pu pw)) (jv (e + 1) 220 0 [some (.ref 0), some (.int 1)] [] (shR, J, L', pR)) (shC, I, L, pX pa pb pu pw) (shR, J, L', pR) ∨ jAsk (jv (d + 3) 168 0 [some (.ref 0), some (.int 1)] [] (shC, I, L, pX pa pb pu pw)) (jv (e + 1) 220 0 [some (.ref 0), some (.int 1)] [] (shR, J, L', pR)) (shC, bgI13 I (I 0 8), L, pX pa pb pu pw) (shR, opJ 1 J, L', pR) := by
  obtain ⟨q1, q2, q3⟩ := h
  by_cases hd : I 0 11 = 0
  · have hd' : J 0 18 = 0 := h0 ▸ hd
    by_cases hb : I 13 0 = 0
    · right
      have hb' : J 9 1 = 0 := q1 ▸ hb
      have z : bgI13 I (I 0 8) 0 8 = I 0 8 := by rw [bgI13_o _ (by decide) (by decide) (by decide) (by decide)]
      refine ⟨.int (I 0 8), ?_, ?_⟩
      · simp (decide := true) only [B168_0_p1, g_per_c, perv, B168_4_p1, hd, hb, g_begin_13, B168_47_p1, z, jin_13, ↓reduceIte, Option.toList_some, Option.toList_none, List.cons_append, List.nil_append, List.append_nil]
      · simp (decide := true) only [B220_0, g_per_r, perv, B220_4, hd', hb', g_end_r1, B220_36, nb1, cl_1, jin_13, opJ_15, ↓reduceIte, Option.toList_some, Option.toList_none, List.cons_append, List.nil_append, List.append_nil]
        rw [opJ_o 1 J (by decide) (by decide) (by decide) (by decide) (by decide), h8]
    · left
      have hb' : ¬ J 9 1 = 0 := q1 ▸ hb
      refine ⟨.int (-2), ?_, ?_⟩
      · simp (decide := true) only [B168_0_p1, g_per_c, perv, B168_4_p1, hd, hb, jin_13, ↓reduceIte, Option.toList_some, Option.toList_none, List.cons_append, List.nil_append, List.append_nil]
      · simp (decide := true) only [B220_0, g_per_r, perv, B220_4, hd', hb', cl_1, jin_13, ↓reduceIte, Option.toList_some, Option.toList_none, List.cons_append, List.nil_append, List.append_nil]
  · left
    have hd' : ¬ J 0 18 = 0 := h0 ▸ hd
    refine ⟨.int (-3), ?_, ?_⟩
    · simp (decide := true) only [B168_0_p1, g_per_c, perv, B168_4_p1, hd, ↓reduceIte, Option.toList_some, Option.toList_none, List.cons_append, List.nil_append, List.append_nil]
    · simp (decide := true) only [B220_0, g_per_r, perv, B220_4, hd', ↓reduceIte, Option.toList_some, Option.toList_none, List.cons_append, List.nil_append, List.append_nil]
theorem g_end_r2 : jgo jTT jMM (d + 1) 221 [.ref 0, .int 2] (shR, J, L', pR) K = K none (shR, endJ 2 J, L', pR) := g_end_r (p := 2) (by decide)
theorem g_begin_18 (c : Int32) : jgo jTT jMM (d + 2) 70 [.ref 18, .int c] (shC, I, L, pX pa pb pu pw) K = K none (shC, bgI18 I c, L, pX pa pb pu pw) := jgo_some rfl (begin_18 c)
theorem g_rows_18 : jgo jTT jMM (d + 1) 75 [.ref 18] (shC, I, L, pX pa pb pu pw) K = K (some (.int (l_sm (I 22) 148))) (shC, I, L, pX pa pb pu pw) := jgo_some rfl (rows_18 none none)
theorem bgI18_o (c : Int32) {x : Nat} (h1 : x ≠ 18) (h2 : x ≠ 20) (h3 : x ≠ 21) (h4 : x ≠ 22) : bgI18 I c x = I x := by
  unfold bgI18
  rw [va_up_ne _ _ h4, va_up_ne _ _ h3, va_up_ne _ _ h2, j_up_cell _ h1, j_up_cell _ h1]
theorem bgI18_b (c : Int32) (f : Nat) : bgI18 I c 18 f = if f = 1 then c else if f = 0 then 1 else I 18 f := by
  unfold bgI18
  rw [va_up_ne _ _ (by decide), va_up_ne _ _ (by decide), va_up_ne _ _ (by decide), j_up_own, j_up_own]
theorem bgI18_s (c : Int32) {q : Nat} (hq : q < 1189) : bgI18 I c 20 q = 0 := by
  unfold bgI18
  rw [va_up_ne _ _ (by decide), va_up_ne _ _ (by decide), va_up_self]
  unfold j_fill
  rw [if_pos hq]
theorem bgI18_e (c : Int32) {q : Nat} (hq : q < 148) : bgI18 I c 21 q = 0 := by
  unfold bgI18
  rw [va_up_ne _ _ (by decide), va_up_self]
  unfold j_fill
  rw [if_pos hq]
theorem bgI18_w (c : Int32) {q : Nat} (hq : q < 148) : bgI18 I c 22 q = 0 := by
  unfold bgI18
  rw [va_up_self]
  unfold j_fill
  rw [if_pos hq]
/-- a transaction begins -/
theorem beg_2 (c : Int32) (hc : c = J 0 15) : perRel 2 18 (bgI18 I c) (opJ 2 J) := by
  have o9 : opJ 2 J 9 2 = 1 := by unfold opJ; rw [j_up_cell _ (by decide), j_up_own, if_pos rfl]
  have oc : ∀ x, x ≠ 10 → x ≠ 9 → opJ 2 J x = endJ 2 J x := fun x h1 h2 => by unfold opJ; rw [j_up_cell _ h1, j_up_cell _ h2]
  refine ⟨by rw [bgI18_b, o9]; rfl, Or.inr o9, fun _ => ⟨?_, fun q hq => ?_, fun r hr => ?_⟩⟩
  · rw [bgI18_b, if_pos rfl, hc]; unfold opJ; rw [j_up_own, if_pos rfl]
  · rw [bgI18_s c hq, oc 13 (by decide) (by decide), endJ_13, clr_in (by omega)]
    exact ⟨rfl, Or.inl rfl, fun z => absurd z (by decide)⟩
  · rw [bgI18_w c hr, bgI18_e c hr, oc 12 (by decide) (by decide), oc 11 (by decide) (by decide), endJ_12, endJ_11, clr_in (by omega), clr_in (by omega)]
    exact ⟨rfl, Or.inl rfl, Or.inl rfl, rfl⟩
theorem open_2 (h : perRel 2 18 I J) (h0 : I 0 11 = J 0 18) (h8 : I 0 8 = J 0 15) : jAsk (jv (d + 3) 168 0 [some (.ref 0), some (.int 2)] [] (shC, I, L, pX pa pb pu pw)) (jv (e + 1) 220 0 [some (.ref 0), some (.int 2)] [] (shR, J, L', pR)) (shC, I, L, pX pa pb pu pw) (shR, J, L', pR) ∨ jAsk (jv (d + 3) 168 0 [some (.ref 0), some (.int 2)] [] (shC, I, L, pX pa pb pu pw)) (jv (e + 1) 220 0 [some (.ref 0), some (.int 2)] [] (shR, J, L', pR)) (shC, bgI18 I (I 0 8), L, pX pa pb pu pw) (shR, opJ 2 J, L', pR) := by
  obtain ⟨q1, q2, q3⟩ := h
  by_cases hd : I 0 11 = 0
  · have hd' : J 0 18 = 0 := h0 ▸ hd
    by_cases hb : I 18 0 = 0
    · right
      have hb' : J 9 2 = 0 := q1 ▸ hb
      have z : bgI18 I (I 0 8) 0 8 = I 0 8 := by rw [bgI18_o _ (by decide) (by decide) (by decide) (by decide)]
      refine ⟨.int (I 0 8), ?_, ?_⟩
      · simp (decide := true) only [B168_0_p2, g_per_c, perv, B168_4_p2, hd, hb, g_begin_18, B168_47_p2, z, jin_23, ↓reduceIte, Option.toList_some, Option.toList_none, List.cons_append, List.nil_append, List.append_nil]
      · simp (decide := true) only [B220_0, g_per_r, perv, B220_4, hd', hb', g_end_r2, B220_36, nb1, cl_2, jin_23, opJ_15, ↓reduceIte, Option.toList_some, Option.toList_none, List.cons_append, List.nil_append, List.append_nil]
        rw [opJ_o 2 J (by decide) (by decide) (by decide) (by decide) (by decide), h8]
    · left
      have hb' : ¬ J 9 2 = 0 := q1 ▸ hb
      refine ⟨.int (-2), ?_, ?_⟩
      · simp (decide := true) only [B168_0_p2, g_per_c, perv, B168_4_p2, hd, hb, jin_23, ↓reduceIte, Option.toList_some, Option.toList_none, List.cons_append, List.nil_append, List.append_nil]
      · simp (decide := true) only [B220_0, g_per_r, perv, B220_4, hd', hb', cl_2, jin_23, ↓reduceIte, Option.toList_some, Option.toList_none, List.cons_append, List.nil_append, List.append_nil]
  · left
    have hd' : ¬ J 0 18 = 0 := h0 ▸ hd
    refine ⟨.int (-3), ?_, ?_⟩
    · simp (decide := true) only [B168_0_p2, g_per_c, perv, B168_4_p2, hd, ↓reduceIte, Option.toList_some, Option.toList_none, List.cons_append, List.nil_append, List.append_nil]
    · simp (decide := true) only [B220_0, g_per_r, perv, B220_4, hd', ↓reduceIte, Option.toList_some, Option.toList_none, List.cons_append, List.nil_append, List.append_nil]
end PCALL
