/-! THE PERSONS' CALLS: open, put, get, leave -/
theorem cl_0 : (0 : Int32).toNatClampNeg = 0 := rfl
theorem cl_1 : (1 : Int32).toNatClampNeg = 1 := rfl
theorem cl_2 : (2 : Int32).toNatClampNeg = 2 := rfl
theorem jin_03 : j_in 0 3 = true := by decide
theorem jin_13 : j_in 1 3 = true := by decide
theorem jin_23 : j_in 2 3 = true := by decide
theorem i01_ne {x : Int32} (h : i01 x) (h0 : ¬ x = 0) : x = 1 := h.resolve_left h0
def opJ (p : Nat) (J : Nat → Nat → Int32) : Nat → Nat → Int32 := j_up (j_up (endJ p J) 9 p 1) 10 p (J 0 15)
theorem opJ_15 (p : Nat) (J : Nat → Nat → Int32) : j_up (j_up (endJ p J) 9 p 1) 10 p (j_up (endJ p J) 9 p 1 0 15) = opJ p J := by
  unfold opJ
  rw [j_up_cell (endJ p J) (show (0 : Nat) ≠ 9 by decide), endJ_o p J (by decide) (by decide) (by decide) (by decide)]
theorem opJ_o (p : Nat) (J : Nat → Nat → Int32) {c : Nat} (h0 : c ≠ 10) (h1 : c ≠ 9) (h2 : c ≠ 11) (h3 : c ≠ 12) (h4 : c ≠ 13) : opJ p J c = J c := by
  unfold opJ
  rw [j_up_cell _ h0, j_up_cell _ h1, endJ_o p J h1 h2 h3 h4]
/-- a get marks the row -/
def seJ (p r : Nat) (J : Nat → Nat → Int32) : Nat → Nat → Int32 := j_up J 11 (p * 148 + r) 1
section PCALL
variable {d e : Nat} {I J : Nat → Nat → Int32} {L L' : Nat → Nat → Int64} {pa pb pu pw : Option Nat} {K : Option Value → jS → jO}
theorem g_place {a b c : Nat} (ha : a < 13) (hb : b < rowsN.getD a 0) (hc : c < fieldsN.getD a 0) : jgo jTT jMM (d + 1) 191 [.int (nI a), .int (nI b), .int (nI c)] (shC, I, L, pX pa pb pu pw) K = K (some (.int (nI (fpN.getD a 0 + b * fieldsN.getD a 0 + c)))) (shC, I, L, pX pa pb pu pw) := by
  refine jgo_some rfl ?_
  show jv d 191 0 [some (.int (nI a)), some (.int (nI b)), some (.int (nI c))] [] (shC, I, L, pX pa pb pu pw) = _
  have hx : j_in (nI a) 13 = true := j_in_nI ha (by decide)
  rw [B191_0, if_pos hx, if_pos hx, nI_clamp (by omega), tz3 a ha, tz1 a ha, nI_mul, nI_add, nI_add]
theorem g_mb {a c : Nat} (ha : a < 12) (hc : c < fieldsN.getD a 0) (v : Int32) : jgo jTT jMM (d + 1) 190 [.int (nI a), .int (nI c), .int v] (shC, I, L, pX pa pb pu pw) K = K (some (.int (mbv a c v))) (shC, I, L, pX pa pb pu pw) := jgo_some rfl (mb_c ha hc v none)
theorem g_least {a c : Nat} (ha : a < 13) (hc : c < 400) : jgo jTT jMM (d + 1) 215 [.int (nI a), .int (nI c)] (shR, I, L, pR) K = K (some (.int (leastv a c))) (shR, I, L, pR) := jgo_some rfl (least_ok ha hc)
theorem g_most {a c : Nat} (ha : a < 13) (hc : c < 400) : jgo jTT jMM (d + 1) 216 [.int (nI a), .int (nI c)] (shR, I, L, pR) K = K (some (.int (mostv a c))) (shR, I, L, pR) := jgo_some rfl (most_ok ha hc)
theorem g_atN (h : rCst I) {a b c : Nat} (ha : a < 13) : jgo jTT jMM (d + 1) 214 [.ref 0, .int (nI a), .int (nI b), .int (nI c)] (shR, I, L, pR) K = K (some (.int (nI (fpN.getD a 0 + b * fieldsN.getD a 0 + c)))) (shR, I, L, pR) := jgo_some rfl (at_ok h ha b c)
theorem fr_row {a b : Nat} (ha : a < 13) : z_2.getD (nI a).toNatClampNeg 0 + nI b = nI (frN.getD a 0 + b) := by rw [nI_clamp (by omega), tz2 a ha, nI_add]
theorem g_end_r0 : jgo jTT jMM (d + 1) 221 [.ref 0, .int 0] (shR, J, L', pR) K = K none (shR, endJ 0 J, L', pR) := g_end_r (p := 0) (by decide)
theorem g_begin_8 (c : Int32) : jgo jTT jMM (d + 2) 70 [.ref 8, .int c] (shC, I, L, pX pa pb pu pw) K = K none (shC, bgI8 I c, L, pX pa pb pu pw) := jgo_some rfl (begin_8 c)
theorem g_rows_8 : jgo jTT jMM (d + 1) 75 [.ref 8] (shC, I, L, pX pa pb pu pw) K = K (some (.int (l_sm (I 12) 148))) (shC, I, L, pX pa pb pu pw) := jgo_some rfl (rows_8 none none)
theorem bgI8_o (c : Int32) {x : Nat} (h1 : x ≠ 8) (h2 : x ≠ 10) (h3 : x ≠ 11) (h4 : x ≠ 12) : bgI8 I c x = I x := by
  unfold bgI8
  rw [va_up_ne _ _ h4, va_up_ne _ _ h3, va_up_ne _ _ h2, j_up_cell _ h1, j_up_cell _ h1]
theorem bgI8_b (c : Int32) (f : Nat) : bgI8 I c 8 f = if f = 1 then c else if f = 0 then 1 else I 8 f := by
  unfold bgI8
  rw [va_up_ne _ _ (by decide), va_up_ne _ _ (by decide), va_up_ne _ _ (by decide), j_up_own, j_up_own]
theorem bgI8_s (c : Int32) {q : Nat} (hq : q < 1189) : bgI8 I c 10 q = 0 := by
  unfold bgI8
  rw [va_up_ne _ _ (by decide), va_up_ne _ _ (by decide), va_up_self]
  unfold j_fill
  rw [if_pos hq]
theorem bgI8_e (c : Int32) {q : Nat} (hq : q < 148) : bgI8 I c 11 q = 0 := by
  unfold bgI8
  rw [va_up_ne _ _ (by decide), va_up_self]
  unfold j_fill
  rw [if_pos hq]
theorem bgI8_w (c : Int32) {q : Nat} (hq : q < 148) : bgI8 I c 12 q = 0 := by
  unfold bgI8
  rw [va_up_self]
  unfold j_fill
  rw [if_pos hq]
/-- a transaction begins -/
theorem beg_0 (c : Int32) (hc : c = J 0 15) : perRel 0 8 (bgI8 I c) (opJ 0 J) := by
  have o9 : opJ 0 J 9 0 = 1 := by unfold opJ; rw [j_up_cell _ (by decide), j_up_own, if_pos rfl]
  have oc : ∀ x, x ≠ 10 → x ≠ 9 → opJ 0 J x = endJ 0 J x := fun x h1 h2 => by unfold opJ; rw [j_up_cell _ h1, j_up_cell _ h2]
  refine ⟨by rw [bgI8_b, o9]; rfl, Or.inr o9, fun _ => ⟨?_, fun q hq => ?_, fun r hr => ?_⟩⟩
  · rw [bgI8_b, if_pos rfl, hc]; unfold opJ; rw [j_up_own, if_pos rfl]
  · rw [bgI8_s c hq, oc 13 (by decide) (by decide), endJ_13, clr_in (by omega)]
    exact ⟨rfl, Or.inl rfl, fun z => absurd z (by decide)⟩
  · rw [bgI8_w c hr, bgI8_e c hr, oc 12 (by decide) (by decide), oc 11 (by decide) (by decide), endJ_12, endJ_11, clr_in (by omega), clr_in (by omega)]
    exact ⟨rfl, Or.inl rfl, Or.inl rfl, rfl⟩
theorem open_0 (h : perRel 0 8 I J) (h0 : I 0 11 = J 0 18) (h8 : I 0 8 = J 0 15) : jAsk (jv (d + 3) 168 0 [some (.ref 0), some (.int 0)] [] (shC, I, L, pX pa pb pu pw)) (jv (e + 1) 220 0 [some (.ref 0), some (.int 0)] [] (shR, J, L', pR)) (shC, I, L, pX pa pb pu pw) (shR, J, L', pR) ∨ jAsk (jv (d + 3) 168 0 [some (.ref 0), some (.int 0)] [] (shC, I, L, pX pa pb pu pw)) (jv (e + 1) 220 0 [some (.ref 0), some (.int 0)] [] (shR, J, L', pR)) (shC, bgI8 I (I 0 8), L, pX pa pb pu pw) (shR, opJ 0 J, L', pR) := by
  obtain ⟨q1, q2, q3⟩ := h
  by_cases hd : I 0 11 = 0
  · have hd' : J 0 18 = 0 := h0 ▸ hd
    by_cases hb : I 8 0 = 0
    · right
      have hb' : J 9 0 = 0 := q1 ▸ hb
      have z : bgI8 I (I 0 8) 0 8 = I 0 8 := by rw [bgI8_o _ (by decide) (by decide) (by decide) (by decide)]
      refine ⟨.int (I 0 8), ?_, ?_⟩
      · simp (decide := true) only [B168_0_p0, g_per_c, perv, B168_4_p0, hd, hb, g_begin_8, B168_47_p0, z, jin_03, ↓reduceIte, Option.toList_some, Option.toList_none, List.cons_append, List.nil_append, List.append_nil]
      · simp (decide := true) only [B220_0, g_per_r, perv, B220_4, hd', hb', g_end_r0, B220_36, nb1, cl_0, jin_03, opJ_15, ↓reduceIte, Option.toList_some, Option.toList_none, List.cons_append, List.nil_append, List.append_nil]
        rw [opJ_o 0 J (by decide) (by decide) (by decide) (by decide) (by decide), h8]
    · left
      have hb' : ¬ J 9 0 = 0 := q1 ▸ hb
      refine ⟨.int (-2), ?_, ?_⟩
      · simp (decide := true) only [B168_0_p0, g_per_c, perv, B168_4_p0, hd, hb, jin_03, ↓reduceIte, Option.toList_some, Option.toList_none, List.cons_append, List.nil_append, List.append_nil]
      · simp (decide := true) only [B220_0, g_per_r, perv, B220_4, hd', hb', cl_0, jin_03, ↓reduceIte, Option.toList_some, Option.toList_none, List.cons_append, List.nil_append, List.append_nil]
  · left
    have hd' : ¬ J 0 18 = 0 := h0 ▸ hd
    refine ⟨.int (-3), ?_, ?_⟩
    · simp (decide := true) only [B168_0_p0, g_per_c, perv, B168_4_p0, hd, ↓reduceIte, Option.toList_some, Option.toList_none, List.cons_append, List.nil_append, List.append_nil]
    · simp (decide := true) only [B220_0, g_per_r, perv, B220_4, hd', ↓reduceIte, Option.toList_some, Option.toList_none, List.cons_append, List.nil_append, List.append_nil]
theorem g_set_r0 (hc : rCst J) {q : Nat} (hq : q < 1189) (hr : rowN.getD q 0 < 148) (v : Int32) : jgo jTT jMM (d + 1) 222 [.ref 0, .int 0, .int (nI q), .int v] (shR, J, L', pR) K = K none (shR, setJ 0 q (rowN.getD q 0) v J, L', pR) := jgo_some rfl (set_r (p := 0) hc (by decide) hq hr v)
/-- a field is written -/
theorem wri_0 (h : perRel 0 8 I J) (h1 : J 9 0 = 1) {q r : Nat} (hq : q < 1189) (hr : r < 148) {v : Int32} (hv : okV q v) : perRel 0 8 (stI8 I q r v) (setJ 0 q r v J) := by
  obtain ⟨a1, a2, a3⟩ := h
  obtain ⟨b1, b2, b3⟩ := a3 h1
  have io : ∀ c, c ≠ 9 → c ≠ 10 → c ≠ 12 → stI8 I q r v c = I c := fun c x y z => by unfold stI8; rw [j_up_cell _ z, j_up_cell _ y, j_up_cell _ x]
  have iv : ∀ j, stI8 I q r v 9 j = if j = q then v else I 9 j := fun j => by unfold stI8; rw [j_up_cell _ (by decide), j_up_cell _ (by decide), j_up_own]
  have is : ∀ j, stI8 I q r v 10 j = if j = q then 1 else I 10 j := fun j => by unfold stI8; rw [j_up_cell _ (by decide), j_up_own, j_up_cell _ (by decide)]
  have iw : ∀ j, stI8 I q r v 12 j = if j = r then 1 else I 12 j := fun j => by unfold stI8; rw [j_up_own, j_up_cell _ (by decide), j_up_cell _ (by decide)]
  have jo : ∀ c, c ≠ 11 → c ≠ 12 → c ≠ 13 → c ≠ 14 → setJ 0 q r v J c = J c := fun c x y z u => by unfold setJ; rw [j_up_cell _ y, j_up_cell _ x, j_up_cell _ u, j_up_cell _ z]
  have j11 : ∀ j, setJ 0 q r v J 11 j = if j = 0 * 148 + r then 1 else J 11 j := fun j => by unfold setJ; rw [j_up_cell _ (by decide), j_up_own, j_up_cell _ (by decide), j_up_cell _ (by decide)]
  have j12 : ∀ j, setJ 0 q r v J 12 j = if j = 0 * 148 + r then 1 else J 12 j := fun j => by unfold setJ; rw [j_up_own, j_up_cell _ (by decide), j_up_cell _ (by decide), j_up_cell _ (by decide)]
  have j13 : ∀ j, setJ 0 q r v J 13 j = if j = 0 * 1189 + q then 1 else J 13 j := fun j => by unfold setJ; rw [j_up_cell _ (by decide), j_up_cell _ (by decide), j_up_cell _ (by decide), j_up_own]
  have j14 : ∀ j, setJ 0 q r v J 14 j = if j = 0 * 1189 + q then v else J 14 j := fun j => by unfold setJ; rw [j_up_cell _ (by decide), j_up_cell _ (by decide), j_up_own, j_up_cell _ (by decide)]
  refine ⟨by rw [io 8 (by decide) (by decide) (by decide), jo 9 (by decide) (by decide) (by decide) (by decide)]; exact a1, by rw [jo 9 (by decide) (by decide) (by decide) (by decide)]; exact a2, fun _ => ⟨?_, fun i hi => ?_, fun i hi => ?_⟩⟩
  · rw [io 8 (by decide) (by decide) (by decide), jo 10 (by decide) (by decide) (by decide) (by decide)]; exact b1
  · show stI8 I q r v 10 i = setJ 0 q r v J 13 (0 * 1189 + i) ∧ i01 (stI8 I q r v 10 i) ∧ (stI8 I q r v 10 i = 1 → stI8 I q r v 9 i = setJ 0 q r v J 14 (0 * 1189 + i) ∧ okV i (stI8 I q r v 9 i))
    rw [is, iv, j13, j14]
    by_cases hx : i = q
    · subst hx
      simp only [↓reduceIte]
      exact ⟨trivial, Or.inr rfl, fun _ => ⟨trivial, hv⟩⟩
    · rw [if_neg hx, if_neg hx, if_neg (by omega), if_neg (by omega)]
      exact b2 i hi
  · show stI8 I q r v 12 i = setJ 0 q r v J 12 (0 * 148 + i) ∧ i01 (stI8 I q r v 12 i) ∧ i01 (stI8 I q r v 11 i) ∧ setJ 0 q r v J 11 (0 * 148 + i) = if stI8 I q r v 11 i = 1 ∨ stI8 I q r v 12 i = 1 then 1 else 0
    rw [iw, j12, j11, io 11 (by decide) (by decide) (by decide)]
    obtain ⟨c1, c2, c3, c4⟩ := b3 i hi
    by_cases hx : i = r
    · subst hx
      simp only [↓reduceIte, or_true]
      exact ⟨trivial, Or.inr rfl, c3, trivial⟩
    · rw [if_neg hx, if_neg (by omega), if_neg (by omega)]
      exact ⟨c1, c2, c3, c4⟩
theorem put_0 (h : perRel 0 8 I J) (h0 : I 0 11 = J 0 18) (hc : rCst J) (t r f v : Int32) : jAsk (jv (d + 1) 169 0 [some (.ref 0), some (.int 0), some (.int t), some (.int r), some (.int f), some (.int v)] [] (shC, I, L, pX pa pb pu pw)) (jv (e + 1) 223 0 [some (.ref 0), some (.int 0), some (.int t), some (.int r), some (.int f), some (.int v)] [] (shR, J, L', pR)) (shC, I, L, pX pa pb pu pw) (shR, J, L', pR) ∨ ∃ q x : Nat, q < 1189 ∧ x < 148 ∧ okV q v ∧ J 9 0 = 1 ∧ jAsk (jv (d + 1) 169 0 [some (.ref 0), some (.int 0), some (.int t), some (.int r), some (.int f), some (.int v)] [] (shC, I, L, pX pa pb pu pw)) (jv (e + 1) 223 0 [some (.ref 0), some (.int 0), some (.int t), some (.int r), some (.int f), some (.int v)] [] (shR, J, L', pR)) (shC, stI8 I q x v, L, pX pa pb pu pw) (shR, setJ 0 q x v J, L', pR) := by
  obtain ⟨q1, q2, q3⟩ := h
  by_cases h2 : t = 12
  · left
    refine ⟨.int (-1), ?_, ?_⟩
    · simp (decide := true) only [B169_0_p0, g_per_c, perv, B169_4_p0, B169_34_p0, h2, ↓reduceIte, Option.toList_some, Option.toList_none, List.cons_append, List.nil_append, List.append_nil]
    · simp (decide := true) only [B223_0, g_per_r, perv, B223_4, B223_46, h2, ↓reduceIte, Option.toList_some, Option.toList_none, List.cons_append, List.nil_append, List.append_nil]
  by_cases h3 : plv t r f = 0
  · left
    refine ⟨.int (-1), ?_, ?_⟩
    · simp (decide := true) only [B169_0_p0, g_per_c, perv, B169_4_p0, g_pl_c, B169_20_p0, B169_34_p0, h2, h3, ↓reduceIte, Option.toList_some, Option.toList_none, List.cons_append, List.nil_append, List.append_nil]
    · simp (decide := true) only [B223_0, g_per_r, perv, B223_4, g_pl_r hc, B223_21, B223_46, h2, h3, ↓reduceIte, Option.toList_some, Option.toList_none, List.cons_append, List.nil_append, List.append_nil]
  obtain ⟨a, b, c, ha, hb, hf, rfl, rfl, rfl⟩ := plv_1 h3
  have ha2 : a < 12 := by
    rcases Nat.lt_or_ge a 12 with q | q
    · exact q
    · exact absurd (by rw [show a = 12 by omega]; rfl) h2
  have h14 := tab_F14 a ha2
  have ja : j_in (nI a) 13 = true := j_in_nI ha (by decide)
  have hp := place_lt ha hb hf
  obtain ⟨rw1, rw2⟩ := row_lt ha hb hf
  by_cases h4 : v < leastv a c
  · left
    refine ⟨.int (-1), ?_, ?_⟩
    · simp (decide := true) only [B169_0_p0, g_per_c, perv, B169_4_p0, g_pl_c, B169_20_p0, g_mb ha2 hf v, mbv, B169_31_p0, B169_34_p0, h2, h3, h4, ↓reduceIte, Option.toList_some, Option.toList_none, List.cons_append, List.nil_append, List.append_nil]
    · simp (decide := true) only [B223_0, g_per_r, perv, B223_4, g_pl_r hc, B223_21, g_least ha (show c < 400 by omega), B223_32, B223_46, h2, h3, h4, ↓reduceIte, Option.toList_some, Option.toList_none, List.cons_append, List.nil_append, List.append_nil]
  by_cases h5 : mostv a c < v
  · left
    refine ⟨.int (-1), ?_, ?_⟩
    · simp (decide := true) only [B169_0_p0, g_per_c, perv, B169_4_p0, g_pl_c, B169_20_p0, g_mb ha2 hf v, mbv, B169_31_p0, B169_34_p0, h2, h3, h4, h5, ↓reduceIte, Option.toList_some, Option.toList_none, List.cons_append, List.nil_append, List.append_nil]
    · simp (decide := true) only [B223_0, g_per_r, perv, B223_4, g_pl_r hc, B223_21, g_least ha (show c < 400 by omega), B223_32, g_most ha (show c < 400 by omega), B223_43, B223_46, h2, h3, h4, h5, ↓reduceIte, Option.toList_some, Option.toList_none, List.cons_append, List.nil_append, List.append_nil]
  by_cases hd : I 0 11 = 0
  · have hd' : J 0 18 = 0 := h0 ▸ hd
    by_cases hx : I 8 0 = 0
    · left
      have hx' : J 9 0 = 0 := q1 ▸ hx
      refine ⟨.int (-2), ?_, ?_⟩
      · simp (decide := true) only [B169_0_p0, g_per_c, perv, B169_4_p0, g_pl_c, B169_20_p0, g_mb ha2 hf v, mbv, B169_31_p0, jin_03, hd, hx, h2, h3, h4, h5, ↓reduceIte, Option.toList_some, Option.toList_none, List.cons_append, List.nil_append, List.append_nil]
      · simp (decide := true) only [B223_0, g_per_r, perv, B223_4, g_pl_r hc, B223_21, g_least ha (show c < 400 by omega), B223_32, g_most ha (show c < 400 by omega), B223_43, jin_03, cl_0, hd', hx', h2, h3, h4, h5, ↓reduceIte, Option.toList_some, Option.toList_none, List.cons_append, List.nil_append, List.append_nil]
    · right
      have hx' : ¬ J 9 0 = 0 := q1 ▸ hx
      refine ⟨_, _, hp, rw2, ⟨fun a' b' c' ha' hb' hc' he => ?_, fun he => ?_⟩, i01_ne q2 hx', .int 1, ?_, ?_⟩
      · obtain ⟨rfl, rfl, rfl⟩ := place_inj ha hb hf (by omega) hb' hc' he
        unfold mbv
        rw [if_neg h4, if_neg h5]
      · have := tab_place ha hb hf
        have h12 : fpN.getD (a + 1) 0 ≤ fpN.getD 12 0 := by
          rcases Nat.lt_or_ge (a + 1) 12 with z | z
          · have := fp_mono a ha 12 (by decide) (by omega); omega
          · rw [show a + 1 = 12 by omega]; exact Nat.le_refl _
        have h888 : fpN.getD 12 0 = 888 := by decide
        omega
      · simp (decide := true) only [B169_0_p0, g_per_c, perv, B169_4_p0, g_pl_c, B169_20_p0, g_mb ha2 hf v, mbv, B169_31_p0, jin_03, hd, hx, h2, h3, h4, h5, g_place ha hb hf, B169_74_p0, ja, fr_row ha, g_set_8 hp rw2, B169_86_p0, ↓reduceIte, Option.toList_some, Option.toList_none, List.cons_append, List.nil_append, List.append_nil]
      · have gs := fun K => g_set_r0 (d := e) (L' := L') (K := K) hc hp (by rw [rw1]; exact rw2) v
        rw [rw1] at gs
        simp (decide := true) only [B223_0, g_per_r, perv, B223_4, g_pl_r hc, B223_21, g_least ha (show c < 400 by omega), B223_32, g_most ha (show c < 400 by omega), B223_43, jin_03, cl_0, hd', hx', h2, h3, h4, h5, g_atN hc ha, B223_80, gs, B223_85, ↓reduceIte, Option.toList_some, Option.toList_none, List.cons_append, List.nil_append, List.append_nil]
  · left
    have hd' : ¬ J 0 18 = 0 := h0 ▸ hd
    refine ⟨.int (-3), ?_, ?_⟩
    · simp (decide := true) only [B169_0_p0, g_per_c, perv, B169_4_p0, g_pl_c, B169_20_p0, g_mb ha2 hf v, mbv, B169_31_p0, hd, h2, h3, h4, h5, ↓reduceIte, Option.toList_some, Option.toList_none, List.cons_append, List.nil_append, List.append_nil]
    · simp (decide := true) only [B223_0, g_per_r, perv, B223_4, g_pl_r hc, B223_21, g_least ha (show c < 400 by omega), B223_32, g_most ha (show c < 400 by omega), B223_43, hd', h2, h3, h4, h5, ↓reduceIte, Option.toList_some, Option.toList_none, List.cons_append, List.nil_append, List.append_nil]
/-- a field is read -/
theorem rea_0 (h : perRel 0 8 I J) (h1 : J 9 0 = 1) {r : Nat} (hr : r < 148) : perRel 0 8 (j_up I 11 r 1) (seJ 0 r J) := by
  obtain ⟨a1, a2, a3⟩ := h
  obtain ⟨b1, b2, b3⟩ := a3 h1
  have io : ∀ c, c ≠ 11 → j_up I 11 r 1 c = I c := fun c x => j_up_cell _ x _ _
  have jo : ∀ c, c ≠ 11 → seJ 0 r J c = J c := fun c x => by unfold seJ; rw [j_up_cell _ x]
  have j11 : ∀ j, seJ 0 r J 11 j = if j = 0 * 148 + r then 1 else J 11 j := fun j => by unfold seJ; rw [j_up_own]
  refine ⟨by rw [io 8 (by decide), jo 9 (by decide)]; exact a1, by rw [jo 9 (by decide)]; exact a2, fun _ => ⟨?_, fun i hi => ?_, fun i hi => ?_⟩⟩
  · rw [io 8 (by decide), jo 10 (by decide)]; exact b1
  · rw [io (8 + 2) (by decide), io (8 + 1) (by decide), jo 13 (by decide), jo 14 (by decide)]; exact b2 i hi
  · rw [io (8 + 4) (by decide), jo 12 (by decide), j11]
    obtain ⟨c1, c2, c3, c4⟩ := b3 i hi
    show _ ∧ _ ∧ i01 (j_up I 11 r 1 11 i) ∧ _ = if j_up I 11 r 1 11 i = 1 ∨ _ then 1 else 0
    rw [j_up_own]
    by_cases hx : i = r
    · subst hx
      simp only [↓reduceIte, true_or]
      exact ⟨c1, c2, Or.inr rfl, trivial⟩
    · rw [if_neg hx, if_neg (by omega)]
      exact ⟨c1, c2, c3, c4⟩
theorem get_0 (h : perRel 0 8 I J) (h0 : I 0 11 = J 0 18) (hm : ∀ q, q < 1189 → I 2 q = J 6 q) (hc : rCst J) (t r f : Int32) : jAsk (jv (d + 3) 170 0 [some (.ref 0), some (.int 0), some (.int t), some (.int r), some (.int f)] [] (shC, I, L, pX pa pb pu pw)) (jv (e + 1) 224 0 [some (.ref 0), some (.int 0), some (.int t), some (.int r), some (.int f), none] [] (shR, J, L', pR)) (shC, I, L, pX pa pb pu pw) (shR, J, L', pR) ∨ ∃ x : Nat, x < 148 ∧ J 9 0 = 1 ∧ jAsk (jv (d + 3) 170 0 [some (.ref 0), some (.int 0), some (.int t), some (.int r), some (.int f)] [] (shC, I, L, pX pa pb pu pw)) (jv (e + 1) 224 0 [some (.ref 0), some (.int 0), some (.int t), some (.int r), some (.int f), none] [] (shR, J, L', pR)) (shC, j_up I 11 x 1, L, pX pa pb pu pw) (shR, seJ 0 x J, L', pR) := by
  obtain ⟨q1, q2, q3⟩ := h
  by_cases h3 : plv t r f = 0
  · left
    refine ⟨.int (-1), ?_, ?_⟩
    · simp (decide := true) only [B170_0_p0, g_per_c, perv, B170_4_p0, g_pl_c, B170_14_p0, B170_17_p0, h3, ↓reduceIte, Option.toList_some, Option.toList_none, List.cons_append, List.nil_append, List.append_nil]
    · simp (decide := true) only [B224_0, g_per_r, perv, B224_4, g_pl_r hc, B224_15, B224_18, h3, ↓reduceIte, Option.toList_some, Option.toList_none, List.cons_append, List.nil_append, List.append_nil]
  obtain ⟨a, b, c, ha, hb, hf, rfl, rfl, rfl⟩ := plv_1 h3
  have ja : j_in (nI a) 13 = true := j_in_nI ha (by decide)
  have hp := place_lt ha hb hf
  obtain ⟨rw1, rw2⟩ := row_lt ha hb hf
  by_cases hd : I 0 11 = 0
  · have hd' : J 0 18 = 0 := h0 ▸ hd
    by_cases hx : I 8 0 = 0
    · left
      have hx' : J 9 0 = 0 := q1 ▸ hx
      refine ⟨.int (-2), ?_, ?_⟩
      · simp (decide := true) only [B170_0_p0, g_per_c, perv, B170_4_p0, g_pl_c, B170_14_p0, jin_03, hd, hx, h3, ↓reduceIte, Option.toList_some, Option.toList_none, List.cons_append, List.nil_append, List.append_nil]
      · simp (decide := true) only [B224_0, g_per_r, perv, B224_4, g_pl_r hc, B224_15, jin_03, cl_0, hd', hx', h3, ↓reduceIte, Option.toList_some, Option.toList_none, List.cons_append, List.nil_append, List.append_nil]
    · right
      have hx' : ¬ J 9 0 = 0 := q1 ▸ hx
      have hbu := i01_ne q2 hx'
      generalize hq : fpN.getD a 0 + b * fieldsN.getD a 0 + c = q at *
      generalize hrr : frN.getD a 0 + b = x at *
      obtain ⟨c1, c2, c3⟩ := (q3 hbu).2.1 q hp
      refine ⟨x, rw2, hbu, .int (if I 10 q = 0 then I 2 q else I 9 q), ?_, ?_⟩
      · have gp := fun K => g_place (d := d + 2) (I := I) (L := L) (pa := pa) (pb := pb) (pu := pu) (pw := pw) (K := K) ha hb hf
        have fr := fr_row (b := b) ha
        rw [hq] at gp
        rw [hrr] at fr
        simp (decide := true) only [B170_0_p0, g_per_c, perv, B170_4_p0, g_pl_c, B170_14_p0, jin_03, hd, hx, h3, gp, B170_57_p0, ja, fr, g_see_8 hp rw2, B170_71_p0, ↓reduceIte, Option.toList_some, Option.toList_none, List.cons_append, List.nil_append, List.append_nil]
      · have ga := fun K => g_atN (d := e) (L := L') (K := K) hc ha (b := b) (c := c)
        rw [hq] at ga
        have e5 := hc.2.2.2.2 q hp
        have x1 : j_in (nI q) 1189 = true := j_in_nI hp (by decide)
        have a1 : (0 : Int32) * 148 + nI (rowN.getD q 0) = nI (0 * 148 + x) := by rw [show (0 : Int32) = nI 0 from rfl, show (148 : Int32) = nI 148 from rfl, nI_mul, nI_add, rw1]
        have a2 : (0 : Int32) * 1189 + nI q = nI (0 * 1189 + q) := by rw [show (0 : Int32) = nI 0 from rfl, show (1189 : Int32) = nI 1189 from rfl, nI_mul, nI_add]
        have x2 : j_in (nI (0 * 148 + x)) 444 = true := j_in_nI (by omega) (by decide)
        have x3 : j_in (nI (0 * 1189 + q)) 3567 = true := j_in_nI (by omega) (by decide)
        have k1 : (nI q).toNatClampNeg = q := nI_clamp (by omega)
        have k2 : (nI (0 * 148 + x)).toNatClampNeg = 0 * 148 + x := nI_clamp (by omega)
        have k3 : (nI (0 * 1189 + q)).toNatClampNeg = 0 * 1189 + q := nI_clamp (by omega)
        have s1 : seJ 0 x J = j_up J 11 (0 * 148 + x) 1 := rfl
        have s2 : j_up J 11 (0 * 148 + x) 1 13 = J 13 := j_up_cell _ (by decide) _ _
        have s3 : j_up J 11 (0 * 148 + x) 1 14 = J 14 := j_up_cell _ (by decide) _ _
        have s4 : j_up J 11 (0 * 148 + x) 1 6 = J 6 := j_up_cell _ (by decide) _ _
        have c1' : J 13 (0 * 1189 + q) = I 10 q := c1.symm
        by_cases hz : I 10 q = 0
        · simp (decide := true) only [B224_0, g_per_r, perv, B224_4, g_pl_r hc, B224_15, jin_03, cl_0, hd', hx', h3, ga, B224_50, x1, k1, e5, a1, x2, a2, x3, k2, k3, nb1, s2, s4, c1', hz, B224_110, hm q hp, s1, ↓reduceIte, Option.toList_some, Option.toList_none, List.cons_append, List.nil_append, List.append_nil]
        · have hv := (c3 (i01_ne c2 hz)).1
          have hv' : J 14 (0 * 1189 + q) = I 9 q := hv.symm
          simp (decide := true) only [B224_0, g_per_r, perv, B224_4, g_pl_r hc, B224_15, jin_03, cl_0, hd', hx', h3, ga, B224_50, x1, k1, e5, a1, x2, a2, x3, k2, k3, nb1, s2, s3, c1', hz, hv', B224_110, s1, ↓reduceIte, Option.toList_some, Option.toList_none, List.cons_append, List.nil_append, List.append_nil]
  · left
    have hd' : ¬ J 0 18 = 0 := h0 ▸ hd
    refine ⟨.int (-3), ?_, ?_⟩
    · simp (decide := true) only [B170_0_p0, g_per_c, perv, B170_4_p0, g_pl_c, B170_14_p0, hd, h3, ↓reduceIte, Option.toList_some, Option.toList_none, List.cons_append, List.nil_append, List.append_nil]
    · simp (decide := true) only [B224_0, g_per_r, perv, B224_4, g_pl_r hc, B224_15, hd', h3, ↓reduceIte, Option.toList_some, Option.toList_none, List.cons_append, List.nil_append, List.append_nil]
/-- how many rows were written -/
theorem cnt_r0 (h : ∀ r, r < 148 → i01 (J 12 (0 * 148 + r))) : jv (e + 1) 233 35 [some (.ref 0), some (.int 0), some (.int 0), some (.int 0)] [] (shR, J, L', pR) = some (some (.int (l_sm (fun r => J 12 (0 * 148 + r)) 148)), (shR, endJ 0 J, L', pR)) := by
  have hh := j_run (fun i => jv (e + 1) 233 35 [some (.ref 0), some (.int 0), some (.int (l_sm (fun r => J 12 (0 * 148 + r)) i)), some (.int (nI i))] [] (shR, J, L', pR)) 148 (fun i hi => by
    show jv (e + 1) 233 35 _ _ _ = jv (e + 1) 233 35 _ _ _
    have a1 : (0 : Int32) * 148 + nI i = nI (0 * 148 + i) := by rw [show (0 : Int32) = nI 0 from rfl, show (148 : Int32) = nI 148 from rfl, nI_mul, nI_add]
    rw [B233_35, if_pos (show nI i < (148 : Int32) from nI_lt hi (by decide)), a1, if_pos (j_in_nI (by omega) (by decide)), nI_clamp (by omega)]
    show _ = jv (e + 1) 233 35 [some (.ref 0), some (.int 0), some (.int (l_sm (fun r => J 12 (0 * 148 + r)) i + J 12 (0 * 148 + i))), some (.int (nI (i + 1)))] [] (shR, J, L', pR)
    by_cases hz : J 12 (0 * 148 + i) = 0
    · rw [if_pos hz, B233_63, nI_1, hz]
    · rw [if_neg hz, B233_63, nI_1, i01_ne (h i hi) hz])
  refine hh.trans ?_
  show jv (e + 1) 233 35 [some (.ref 0), some (.int 0), some (.int (l_sm (fun r => J 12 (0 * 148 + r)) 148)), some (.int (nI 148))] [] (shR, J, L', pR) = _
  rw [B233_35, if_neg (by decide), g_end_r0]
  dsimp only [Option.toList_none, List.nil_append]
  rw [B233_76]
theorem leave_0 (h : perRel 0 8 I J) (h0 : I 0 11 = J 0 18) : jAsk (jv (d + 1) 177 0 [some (.ref 0), some (.int 0)] [] (shC, I, L, pX pa pb pu pw)) (jv (e + 1) 233 0 [some (.ref 0), some (.int 0), none, none] [] (shR, J, L', pR)) (shC, I, L, pX pa pb pu pw) (shR, J, L', pR) ∨ jAsk (jv (d + 1) 177 0 [some (.ref 0), some (.int 0)] [] (shC, I, L, pX pa pb pu pw)) (jv (e + 1) 233 0 [some (.ref 0), some (.int 0), none, none] [] (shR, J, L', pR)) (shC, j_up I 8 0 0, L, pX pa pb pu pw) (shR, endJ 0 J, L', pR) := by
  obtain ⟨q1, q2, q3⟩ := h
  by_cases hd : I 0 11 = 0
  · have hd' : J 0 18 = 0 := h0 ▸ hd
    by_cases hb : I 8 0 = 0
    · left
      have hb' : J 9 0 = 0 := q1 ▸ hb
      refine ⟨.int (-2), ?_, ?_⟩
      · simp (decide := true) only [B177_0_p0, g_per_c, perv, B177_4_p0, hd, hb, jin_03, ↓reduceIte, Option.toList_some, Option.toList_none, List.cons_append, List.nil_append, List.append_nil]
      · simp (decide := true) only [B233_0, g_per_r, perv, B233_4, hd', hb', cl_0, jin_03, ↓reduceIte, Option.toList_some, Option.toList_none, List.cons_append, List.nil_append, List.append_nil]
    · right
      have hb' : ¬ J 9 0 = 0 := q1 ▸ hb
      have h3 := (q3 (i01_ne q2 hb')).2.2
      have es : l_sm (j_up I 8 0 0 12) 148 = l_sm (fun r => J 12 (0 * 148 + r)) 148 := by
        have : ∀ n, n ≤ 148 → l_sm (j_up I 8 0 0 12) n = l_sm (fun r => J 12 (0 * 148 + r)) n := by
          intro n
          induction n with
          | zero => intro _; rfl
          | succ n ih =>
            intro hn
            show l_sm (j_up I 8 0 0 12) n + j_up I 8 0 0 12 n = l_sm (fun r => J 12 (0 * 148 + r)) n + J 12 (0 * 148 + n)
            rw [ih (by omega), j_up_cell _ (by decide)]
            exact congrArg _ (h3 n (by omega)).1
        exact this 148 (Nat.le_refl _)
      refine ⟨.int (l_sm (fun r => J 12 (0 * 148 + r)) 148), ?_, ?_⟩
      · simp (decide := true) only [B177_0_p0, g_per_c, perv, B177_4_p0, hd, hb, jin_03, nb0, g_rows_8, B177_53_p0, es, ↓reduceIte, Option.toList_some, Option.toList_none, List.cons_append, List.nil_append, List.append_nil]
      · have hq := cnt_r0 (e := e) (L' := L') (J := J) (fun r hr => by have := h3 r hr; rw [← this.1]; exact this.2.1)
        simp (decide := true) only [B233_0, g_per_r, perv, B233_4, hd', hb', cl_0, jin_03, hq, ↓reduceIte, Option.toList_some, Option.toList_none, List.cons_append, List.nil_append, List.append_nil]
  · left
    have hd' : ¬ J 0 18 = 0 := h0 ▸ hd
    refine ⟨.int (-3), ?_, ?_⟩
    · simp (decide := true) only [B177_0_p0, g_per_c, perv, B177_4_p0, hd, ↓reduceIte, Option.toList_some, Option.toList_none, List.cons_append, List.nil_append, List.append_nil]
    · simp (decide := true) only [B233_0, g_per_r, perv, B233_4, hd', ↓reduceIte, Option.toList_some, Option.toList_none, List.cons_append, List.nil_append, List.append_nil]
theorem g_end_r1 : jgo jTT jMM (d + 1) 221 [.ref 0, .int 1] (shR, J, L', pR) K = K none (shR, endJ 1 J, L', pR) := g_end_r (p := 1) (by decide)
theorem g_begin_13 (c : Int32) : jgo jTT jMM (d + 2) 70 [.ref 13, .int c] (shC, I, L, pX pa pb pu pw) K = K none (shC, bgI13 I c, L, pX pa pb pu pw) := jgo_some rfl (begin_13 c)
theorem g_rows_13 : jgo jTT jMM (d + 1) 75 [.ref 13] (shC, I, L, pX pa pb pu pw) K = K (some (.int (l_sm (I 17) 148))) (shC, I, L, pX pa pb pu pw) := jgo_some rfl (rows_13 none none)
theorem bgI13_o (c : Int32) {x : Nat} (h1 : x ≠ 13) (h2 : x ≠ 15) (h3 : x ≠ 16) (h4 : x ≠ 17) : bgI13 I c x = I x := by
  unfold bgI13
  rw [va_up_ne _ _ h4, va_up_ne _ _ h3, va_up_ne _ _ h2, j_up_cell _ h1, j_up_cell _ h1]
theorem bgI13_b (c : Int32) (f : Nat) : bgI13 I c 13 f = if f = 1 then c else if f = 0 then 1 else I 13 f := by
  unfold bgI13
  rw [va_up_ne _ _ (by decide), va_up_ne _ _ (by decide), va_up_ne _ _ (by decide), j_up_own, j_up_own]
theorem bgI13_s (c : Int32) {q : Nat} (hq : q < 1189) : bgI13 I c 15 q = 0 := by
  unfold bgI13
  rw [va_up_ne _ _ (by decide), va_up_ne _ _ (by decide), va_up_self]
  unfold j_fill
  rw [if_pos hq]
theorem bgI13_e (c : Int32) {q : Nat} (hq : q < 148) : bgI13 I c 16 q = 0 := by
  unfold bgI13
  rw [va_up_ne _ _ (by decide), va_up_self]
  unfold j_fill
  rw [if_pos hq]
theorem bgI13_w (c : Int32) {q : Nat} (hq : q < 148) : bgI13 I c 17 q = 0 := by
  unfold bgI13
  rw [va_up_self]
  unfold j_fill
  rw [if_pos hq]
/-- a transaction begins -/
theorem beg_1 (c : Int32) (hc : c = J 0 15) : perRel 1 13 (bgI13 I c) (opJ 1 J) := by
  have o9 : opJ 1 J 9 1 = 1 := by unfold opJ; rw [j_up_cell _ (by decide), j_up_own, if_pos rfl]
  have oc : ∀ x, x ≠ 10 → x ≠ 9 → opJ 1 J x = endJ 1 J x := fun x h1 h2 => by unfold opJ; rw [j_up_cell _ h1, j_up_cell _ h2]
  refine ⟨by rw [bgI13_b, o9]; rfl, Or.inr o9, fun _ => ⟨?_, fun q hq => ?_, fun r hr => ?_⟩⟩
  · rw [bgI13_b, if_pos rfl, hc]; unfold opJ; rw [j_up_own, if_pos rfl]
  · rw [bgI13_s c hq, oc 13 (by decide) (by decide), endJ_13, clr_in (by omega)]
    exact ⟨rfl, Or.inl rfl, fun z => absurd z (by decide)⟩
  · rw [bgI13_w c hr, bgI13_e c hr, oc 12 (by decide) (by decide), oc 11 (by decide) (by decide), endJ_12, endJ_11, clr_in (by omega), clr_in (by omega)]
    exact ⟨rfl, Or.inl rfl, Or.inl rfl, rfl⟩
theorem open_1 (h : perRel 1 13 I J) (h0 : I 0 11 = J 0 18) (h8 : I 0 8 = J 0 15) : jAsk (jv (d + 3) 168 0 [some (.ref 0), some (.int 1)] [] (shC, I, L, pX pa pb pu pw)) (jv (e + 1) 220 0 [some (.ref 0), some (.int 1)] [] (shR, J, L', pR)) (shC, I, L, pX pa pb pu pw) (shR, J, L', pR) ∨ jAsk (jv (d + 3) 168 0 [some (.ref 0), some (.int 1)] [] (shC, I, L, pX pa pb pu pw)) (jv (e + 1) 220 0 [some (.ref 0), some (.int 1)] [] (shR, J, L', pR)) (shC, bgI13 I (I 0 8), L, pX pa pb pu pw) (shR, opJ 1 J, L', pR) := by
  obtain ⟨q1, q2, q3⟩ := h
  by_cases hd : I 0 11 = 0
  · have hd' : J 0 18 = 0 := h0 ▸ hd
    by_cases hb : I 13 0 = 0
    · right
      have hb' : J 9 1 = 0 := q1 ▸ hb
      have z : bgI13 I (I 0 8) 0 8 = I 0 8 := by rw [bgI13_o _ (by decide) (by decide) (by decide) (by decide)]
      refine ⟨.int (I 0 8), ?_, ?_⟩
      · simp (decide := true) only [B168_0_p1, g_per_c, perv, B168_4_p1, hd, hb, g_begin_13, B168_47_p1, z, jin_13, ↓reduceIte, Option.toList_some, Option.toList_none, List.cons_append, List.nil_append, List.append_nil]
      · simp (decide := true) only [B220_0, g_per_r, perv, B220_4, hd', hb', g_end_r1, B220_36, nb1, cl_1, jin_13, opJ_15, ↓reduceIte, Option.toList_some, Option.toList_none, List.cons_append, List.nil_append, List.append_nil]
        rw [opJ_o 1 J (by decide) (by decide) (by decide) (by decide) (by decide), h8]
    · left
      have hb' : ¬ J 9 1 = 0 := q1 ▸ hb
      refine ⟨.int (-2), ?_, ?_⟩
      · simp (decide := true) only [B168_0_p1, g_per_c, perv, B168_4_p1, hd, hb, jin_13, ↓reduceIte, Option.toList_some, Option.toList_none, List.cons_append, List.nil_append, List.append_nil]
      · simp (decide := true) only [B220_0, g_per_r, perv, B220_4, hd', hb', cl_1, jin_13, ↓reduceIte, Option.toList_some, Option.toList_none, List.cons_append, List.nil_append, List.append_nil]
  · left
    have hd' : ¬ J 0 18 = 0 := h0 ▸ hd
    refine ⟨.int (-3), ?_, ?_⟩
    · simp (decide := true) only [B168_0_p1, g_per_c, perv, B168_4_p1, hd, ↓reduceIte, Option.toList_some, Option.toList_none, List.cons_append, List.nil_append, List.append_nil]
    · simp (decide := true) only [B220_0, g_per_r, perv, B220_4, hd', ↓reduceIte, Option.toList_some, Option.toList_none, List.cons_append, List.nil_append, List.append_nil]
theorem g_set_r1 (hc : rCst J) {q : Nat} (hq : q < 1189) (hr : rowN.getD q 0 < 148) (v : Int32) : jgo jTT jMM (d + 1) 222 [.ref 0, .int 1, .int (nI q), .int v] (shR, J, L', pR) K = K none (shR, setJ 1 q (rowN.getD q 0) v J, L', pR) := jgo_some rfl (set_r (p := 1) hc (by decide) hq hr v)
/-- a field is written -/
theorem wri_1 (h : perRel 1 13 I J) (h1 : J 9 1 = 1) {q r : Nat} (hq : q < 1189) (hr : r < 148) {v : Int32} (hv : okV q v) : perRel 1 13 (stI13 I q r v) (setJ 1 q r v J) := by
  obtain ⟨a1, a2, a3⟩ := h
  obtain ⟨b1, b2, b3⟩ := a3 h1
  have io : ∀ c, c ≠ 14 → c ≠ 15 → c ≠ 17 → stI13 I q r v c = I c := fun c x y z => by unfold stI13; rw [j_up_cell _ z, j_up_cell _ y, j_up_cell _ x]
  have iv : ∀ j, stI13 I q r v 14 j = if j = q then v else I 14 j := fun j => by unfold stI13; rw [j_up_cell _ (by decide), j_up_cell _ (by decide), j_up_own]
  have is : ∀ j, stI13 I q r v 15 j = if j = q then 1 else I 15 j := fun j => by unfold stI13; rw [j_up_cell _ (by decide), j_up_own, j_up_cell _ (by decide)]
  have iw : ∀ j, stI13 I q r v 17 j = if j = r then 1 else I 17 j := fun j => by unfold stI13; rw [j_up_own, j_up_cell _ (by decide), j_up_cell _ (by decide)]
  have jo : ∀ c, c ≠ 11 → c ≠ 12 → c ≠ 13 → c ≠ 14 → setJ 1 q r v J c = J c := fun c x y z u => by unfold setJ; rw [j_up_cell _ y, j_up_cell _ x, j_up_cell _ u, j_up_cell _ z]
  have j11 : ∀ j, setJ 1 q r v J 11 j = if j = 1 * 148 + r then 1 else J 11 j := fun j => by unfold setJ; rw [j_up_cell _ (by decide), j_up_own, j_up_cell _ (by decide), j_up_cell _ (by decide)]
  have j12 : ∀ j, setJ 1 q r v J 12 j = if j = 1 * 148 + r then 1 else J 12 j := fun j => by unfold setJ; rw [j_up_own, j_up_cell _ (by decide), j_up_cell _ (by decide), j_up_cell _ (by decide)]
  have j13 : ∀ j, setJ 1 q r v J 13 j = if j = 1 * 1189 + q then 1 else J 13 j := fun j => by unfold setJ; rw [j_up_cell _ (by decide), j_up_cell _ (by decide), j_up_cell _ (by decide), j_up_own]
  have j14 : ∀ j, setJ 1 q r v J 14 j = if j = 1 * 1189 + q then v else J 14 j := fun j => by unfold setJ; rw [j_up_cell _ (by decide), j_up_cell _ (by decide), j_up_own, j_up_cell _ (by decide)]
  refine ⟨by rw [io 13 (by decide) (by decide) (by decide), jo 9 (by decide) (by decide) (by decide) (by decide)]; exact a1, by rw [jo 9 (by decide) (by decide) (by decide) (by decide)]; exact a2, fun _ => ⟨?_, fun i hi => ?_, fun i hi => ?_⟩⟩
  · rw [io 13 (by decide) (by decide) (by decide), jo 10 (by decide) (by decide) (by decide) (by decide)]; exact b1
  · show stI13 I q r v 15 i = setJ 1 q r v J 13 (1 * 1189 + i) ∧ i01 (stI13 I q r v 15 i) ∧ (stI13 I q r v 15 i = 1 → stI13 I q r v 14 i = setJ 1 q r v J 14 (1 * 1189 + i) ∧ okV i (stI13 I q r v 14 i))
    rw [is, iv, j13, j14]
    by_cases hx : i = q
    · subst hx
      simp only [↓reduceIte]
      exact ⟨trivial, Or.inr rfl, fun _ => ⟨trivial, hv⟩⟩
    · rw [if_neg hx, if_neg hx, if_neg (by omega), if_neg (by omega)]
      exact b2 i hi
  · show stI13 I q r v 17 i = setJ 1 q r v J 12 (1 * 148 + i) ∧ i01 (stI13 I q r v 17 i) ∧ i01 (stI13 I q r v 16 i) ∧ setJ 1 q r v J 11 (1 * 148 + i) = if stI13 I q r v 16 i = 1 ∨ stI13 I q r v 17 i = 1 then 1 else 0
    rw [iw, j12, j11, io 16 (by decide) (by decide) (by decide)]
    obtain ⟨c1, c2, c3, c4⟩ := b3 i hi
    by_cases hx : i = r
    · subst hx
      simp only [↓reduceIte, or_true]
      exact ⟨trivial, Or.inr rfl, c3, trivial⟩
    · rw [if_neg hx, if_neg (by omega), if_neg (by omega)]
      exact ⟨c1, c2, c3, c4⟩
theorem put_1 (h : perRel 1 13 I J) (h0 : I 0 11 = J 0 18) (hc : rCst J) (t r f v : Int32) : jAsk (jv (d + 1) 169 0 [some (.ref 0), some (.int 1), some (.int t), some (.int r), some (.int f), some (.int v)] [] (shC, I, L, pX pa pb pu pw)) (jv (e + 1) 223 0 [some (.ref 0), some (.int 1), some (.int t), some (.int r), some (.int f), some (.int v)] [] (shR, J, L', pR)) (shC, I, L, pX pa pb pu pw) (shR, J, L', pR) ∨ ∃ q x : Nat, q < 1189 ∧ x < 148 ∧ okV q v ∧ J 9 1 = 1 ∧ jAsk (jv (d + 1) 169 0 [some (.ref 0), some (.int 1), some (.int t), some (.int r), some (.int f), some (.int v)] [] (shC, I, L, pX pa pb pu pw)) (jv (e + 1) 223 0 [some (.ref 0), some (.int 1), some (.int t), some (.int r), some (.int f), some (.int v)] [] (shR, J, L', pR)) (shC, stI13 I q x v, L, pX pa pb pu pw) (shR, setJ 1 q x v J, L', pR) := by
  obtain ⟨q1, q2, q3⟩ := h
  by_cases h2 : t = 12
  · left
    refine ⟨.int (-1), ?_, ?_⟩
    · simp (decide := true) only [B169_0_p1, g_per_c, perv, B169_4_p1, B169_34_p1, h2, ↓reduceIte, Option.toList_some, Option.toList_none, List.cons_append, List.nil_append, List.append_nil]
    · simp (decide := true) only [B223_0, g_per_r, perv, B223_4, B223_46, h2, ↓reduceIte, Option.toList_some, Option.toList_none, List.cons_append, List.nil_append, List.append_nil]
  by_cases h3 : plv t r f = 0
  · left
    refine ⟨.int (-1), ?_, ?_⟩
    · simp (decide := true) only [B169_0_p1, g_per_c, perv, B169_4_p1, g_pl_c, B169_20_p1, B169_34_p1, h2, h3, ↓reduceIte, Option.toList_some, Option.toList_none, List.cons_append, List.nil_append, List.append_nil]
    · simp (decide := true) only [B223_0, g_per_r, perv, B223_4, g_pl_r hc, B223_21, B223_46, h2, h3, ↓reduceIte, Option.toList_some, Option.toList_none, List.cons_append, List.nil_append, List.append_nil]
  obtain ⟨a, b, c, ha, hb, hf, rfl, rfl, rfl⟩ := plv_1 h3
  have ha2 : a < 12 := by
    rcases Nat.lt_or_ge a 12 with q | q
    · exact q
    · exact absurd (by rw [show a = 12 by omega]; rfl) h2
  have h14 := tab_F14 a ha2
  have ja : j_in (nI a) 13 = true := j_in_nI ha (by decide)
  have hp := place_lt ha hb hf
  obtain ⟨rw1, rw2⟩ := row_lt ha hb hf
  by_cases h4 : v < leastv a c
  · left
    refine ⟨.int (-1), ?_, ?_⟩
    · simp (decide := true) only [B169_0_p1, g_per_c, perv, B169_4_p1, g_pl_c, B169_20_p1, g_mb ha2 hf v, mbv, B169_31_p1, B169_34_p1, h2, h3, h4, ↓reduceIte, Option.toList_some, Option.toList_none, List.cons_append, List.nil_append, List.append_nil]
    · simp (decide := true) only [B223_0, g_per_r, perv, B223_4, g_pl_r hc, B223_21, g_least ha (show c < 400 by omega), B223_32, B223_46, h2, h3, h4, ↓reduceIte, Option.toList_some, Option.toList_none, List.cons_append, List.nil_append, List.append_nil]
  by_cases h5 : mostv a c < v
  · left
    refine ⟨.int (-1), ?_, ?_⟩
    · simp (decide := true) only [B169_0_p1, g_per_c, perv, B169_4_p1, g_pl_c, B169_20_p1, g_mb ha2 hf v, mbv, B169_31_p1, B169_34_p1, h2, h3, h4, h5, ↓reduceIte, Option.toList_some, Option.toList_none, List.cons_append, List.nil_append, List.append_nil]
    · simp (decide := true) only [B223_0, g_per_r, perv, B223_4, g_pl_r hc, B223_21, g_least ha (show c < 400 by omega), B223_32, g_most ha (show c < 400 by omega), B223_43, B223_46, h2, h3, h4, h5, ↓reduceIte, Option.toList_some, Option.toList_none, List.cons_append, List.nil_append, List.append_nil]
  by_cases hd : I 0 11 = 0
  · have hd' : J 0 18 = 0 := h0 ▸ hd
    by_cases hx : I 13 0 = 0
    · left
      have hx' : J 9 1 = 0 := q1 ▸ hx
      refine ⟨.int (-2), ?_, ?_⟩
      · simp (decide := true) only [B169_0_p1, g_per_c, perv, B169_4_p1, g_pl_c, B169_20_p1, g_mb ha2 hf v, mbv, B169_31_p1, jin_13, hd, hx, h2, h3, h4, h5, ↓reduceIte, Option.toList_some, Option.toList_none, List.cons_append, List.nil_append, List.append_nil]
      · simp (decide := true) only [B223_0, g_per_r, perv, B223_4, g_pl_r hc, B223_21, g_least ha (show c < 400 by omega), B223_32, g_most ha (show c < 400 by omega), B223_43, jin_13, cl_1, hd', hx', h2, h3, h4, h5, ↓reduceIte, Option.toList_some, Option.toList_none, List.cons_append, List.nil_append, List.append_nil]
    · right
      have hx' : ¬ J 9 1 = 0 := q1 ▸ hx
      refine ⟨_, _, hp, rw2, ⟨fun a' b' c' ha' hb' hc' he => ?_, fun he => ?_⟩, i01_ne q2 hx', .int 1, ?_, ?_⟩
      · obtain ⟨rfl, rfl, rfl⟩ := place_inj ha hb hf (by omega) hb' hc' he
        unfold mbv
        rw [if_neg h4, if_neg h5]
      · have := tab_place ha hb hf
        have h12 : fpN.getD (a + 1) 0 ≤ fpN.getD 12 0 := by
          rcases Nat.lt_or_ge (a + 1) 12 with z | z
          · have := fp_mono a ha 12 (by decide) (by omega); omega
          · rw [show a + 1 = 12 by omega]; exact Nat.le_refl _
        have h888 : fpN.getD 12 0 = 888 := by decide
        omega
      · simp (decide := true) only [B169_0_p1, g_per_c, perv, B169_4_p1, g_pl_c, B169_20_p1, g_mb ha2 hf v, mbv, B169_31_p1, jin_13, hd, hx, h2, h3, h4, h5, g_place ha hb hf, B169_74_p1, ja, fr_row ha, g_set_13 hp rw2, B169_86_p1, ↓reduceIte, Option.toList_some, Option.toList_none, List.cons_append, List.nil_append, List.append_nil]
      · have gs := fun K => g_set_r1 (d := e) (L' := L') (K := K) hc hp (by rw [rw1]; exact rw2) v
        rw [rw1] at gs
        simp (decide := true) only [B223_0, g_per_r, perv, B223_4, g_pl_r hc, B223_21, g_least ha (show c < 400 by omega), B223_32, g_most ha (show c < 400 by omega), B223_43, jin_13, cl_1, hd', hx', h2, h3, h4, h5, g_atN hc ha, B223_80, gs, B223_85, ↓reduceIte, Option.toList_some, Option.toList_none, List.cons_append, List.nil_append, List.append_nil]
  · left
    have hd' : ¬ J 0 18 = 0 := h0 ▸ hd
    refine ⟨.int (-3), ?_, ?_⟩
    · simp (decide := true) only [B169_0_p1, g_per_c, perv, B169_4_p1, g_pl_c, B169_20_p1, g_mb ha2 hf v, mbv, B169_31_p1, hd, h2, h3, h4, h5, ↓reduceIte, Option.toList_some, Option.toList_none, List.cons_append, List.nil_append, List.append_nil]
    · simp (decide := true) only [B223_0, g_per_r, perv, B223_4, g_pl_r hc, B223_21, g_least ha (show c < 400 by omega), B223_32, g_most ha (show c < 400 by omega), B223_43, hd', h2, h3, h4, h5, ↓reduceIte, Option.toList_some, Option.toList_none, List.cons_append, List.nil_append, List.append_nil]
/-- a field is read -/
theorem rea_1 (h : perRel 1 13 I J) (h1 : J 9 1 = 1) {r : Nat} (hr : r < 148) : perRel 1 13 (j_up I 16 r 1) (seJ 1 r J) := by
  obtain ⟨a1, a2, a3⟩ := h
  obtain ⟨b1, b2, b3⟩ := a3 h1
  have io : ∀ c, c ≠ 16 → j_up I 16 r 1 c = I c := fun c x => j_up_cell _ x _ _
  have jo : ∀ c, c ≠ 11 → seJ 1 r J c = J c := fun c x => by unfold seJ; rw [j_up_cell _ x]
  have j11 : ∀ j, seJ 1 r J 11 j = if j = 1 * 148 + r then 1 else J 11 j := fun j => by unfold seJ; rw [j_up_own]
  refine ⟨by rw [io 13 (by decide), jo 9 (by decide)]; exact a1, by rw [jo 9 (by decide)]; exact a2, fun _ => ⟨?_, fun i hi => ?_, fun i hi => ?_⟩⟩
  · rw [io 13 (by decide), jo 10 (by decide)]; exact b1
  · rw [io (13 + 2) (by decide), io (13 + 1) (by decide), jo 13 (by decide), jo 14 (by decide)]; exact b2 i hi
  · rw [io (13 + 4) (by decide), jo 12 (by decide), j11]
    obtain ⟨c1, c2, c3, c4⟩ := b3 i hi
    show _ ∧ _ ∧ i01 (j_up I 16 r 1 16 i) ∧ _ = if j_up I 16 r 1 16 i = 1 ∨ _ then 1 else 0
    rw [j_up_own]
    by_cases hx : i = r
    · subst hx
      simp only [↓reduceIte, true_or]
      exact ⟨c1, c2, Or.inr rfl, trivial⟩
    · rw [if_neg hx, if_neg (by omega)]
      exact ⟨c1, c2, c3, c4⟩
theorem get_1 (h : perRel 1 13 I J) (h0 : I 0 11 = J 0 18) (hm : ∀ q, q < 1189 → I 2 q = J 6 q) (hc : rCst J) (t r f : Int32) : jAsk (jv (d + 3) 170 0 [some (.ref 0), some (.int 1), some (.int t), some (.int r), some (.int f)] [] (shC, I, L, pX pa pb pu pw)) (jv (e + 1) 224 0 [some (.ref 0), some (.int 1), some (.int t), some (.int r), some (.int f), none] [] (shR, J, L', pR)) (shC, I, L, pX pa pb pu pw) (shR, J, L', pR) ∨ ∃ x : Nat, x < 148 ∧ J 9 1 = 1 ∧ jAsk (jv (d + 3) 170 0 [some (.ref 0), some (.int 1), some (.int t), some (.int r), some (.int f)] [] (shC, I, L, pX pa pb pu pw)) (jv (e + 1) 224 0 [some (.ref 0), some (.int 1), some (.int t), some (.int r), some (.int f), none] [] (shR, J, L', pR)) (shC, j_up I 16 x 1, L, pX pa pb pu pw) (shR, seJ 1 x J, L', pR) := by
  obtain ⟨q1, q2, q3⟩ := h
  by_cases h3 : plv t r f = 0
  · left
    refine ⟨.int (-1), ?_, ?_⟩
    · simp (decide := true) only [B170_0_p1, g_per_c, perv, B170_4_p1, g_pl_c, B170_14_p1, B170_17_p1, h3, ↓reduceIte, Option.toList_some, Option.toList_none, List.cons_append, List.nil_append, List.append_nil]
    · simp (decide := true) only [B224_0, g_per_r, perv, B224_4, g_pl_r hc, B224_15, B224_18, h3, ↓reduceIte, Option.toList_some, Option.toList_none, List.cons_append, List.nil_append, List.append_nil]
  obtain ⟨a, b, c, ha, hb, hf, rfl, rfl, rfl⟩ := plv_1 h3
  have ja : j_in (nI a) 13 = true := j_in_nI ha (by decide)
  have hp := place_lt ha hb hf
  obtain ⟨rw1, rw2⟩ := row_lt ha hb hf
  by_cases hd : I 0 11 = 0
  · have hd' : J 0 18 = 0 := h0 ▸ hd
    by_cases hx : I 13 0 = 0
    · left
      have hx' : J 9 1 = 0 := q1 ▸ hx
      refine ⟨.int (-2), ?_, ?_⟩
      · simp (decide := true) only [B170_0_p1, g_per_c, perv, B170_4_p1, g_pl_c, B170_14_p1, jin_13, hd, hx, h3, ↓reduceIte, Option.toList_some, Option.toList_none, List.cons_append, List.nil_append, List.append_nil]
      · simp (decide := true) only [B224_0, g_per_r, perv, B224_4, g_pl_r hc, B224_15, jin_13, cl_1, hd', hx', h3, ↓reduceIte, Option.toList_some, Option.toList_none, List.cons_append, List.nil_append, List.append_nil]
    · right
      have hx' : ¬ J 9 1 = 0 := q1 ▸ hx
      have hbu := i01_ne q2 hx'
      generalize hq : fpN.getD a 0 + b * fieldsN.getD a 0 + c = q at *
      generalize hrr : frN.getD a 0 + b = x at *
      obtain ⟨c1, c2, c3⟩ := (q3 hbu).2.1 q hp
      refine ⟨x, rw2, hbu, .int (if I 15 q = 0 then I 2 q else I 14 q), ?_, ?_⟩
      · have gp := fun K => g_place (d := d + 2) (I := I) (L := L) (pa := pa) (pb := pb) (pu := pu) (pw := pw) (K := K) ha hb hf
        have fr := fr_row (b := b) ha
        rw [hq] at gp
        rw [hrr] at fr
        simp (decide := true) only [B170_0_p1, g_per_c, perv, B170_4_p1, g_pl_c, B170_14_p1, jin_13, hd, hx, h3, gp, B170_57_p1, ja, fr, g_see_13 hp rw2, B170_71_p1, ↓reduceIte, Option.toList_some, Option.toList_none, List.cons_append, List.nil_append, List.append_nil]
      · have ga := fun K => g_atN (d := e) (L := L') (K := K) hc ha (b := b) (c := c)
        rw [hq] at ga
        have e5 := hc.2.2.2.2 q hp
        have x1 : j_in (nI q) 1189 = true := j_in_nI hp (by decide)
        have a1 : (1 : Int32) * 148 + nI (rowN.getD q 0) = nI (1 * 148 + x) := by rw [show (1 : Int32) = nI 1 from rfl, show (148 : Int32) = nI 148 from rfl, nI_mul, nI_add, rw1]
        have a2 : (1 : Int32) * 1189 + nI q = nI (1 * 1189 + q) := by rw [show (1 : Int32) = nI 1 from rfl, show (1189 : Int32) = nI 1189 from rfl, nI_mul, nI_add]
        have x2 : j_in (nI (1 * 148 + x)) 444 = true := j_in_nI (by omega) (by decide)
        have x3 : j_in (nI (1 * 1189 + q)) 3567 = true := j_in_nI (by omega) (by decide)
        have k1 : (nI q).toNatClampNeg = q := nI_clamp (by omega)
        have k2 : (nI (1 * 148 + x)).toNatClampNeg = 1 * 148 + x := nI_clamp (by omega)
        have k3 : (nI (1 * 1189 + q)).toNatClampNeg = 1 * 1189 + q := nI_clamp (by omega)
        have s1 : seJ 1 x J = j_up J 11 (1 * 148 + x) 1 := rfl
        have s2 : j_up J 11 (1 * 148 + x) 1 13 = J 13 := j_up_cell _ (by decide) _ _
        have s3 : j_up J 11 (1 * 148 + x) 1 14 = J 14 := j_up_cell _ (by decide) _ _
        have s4 : j_up J 11 (1 * 148 + x) 1 6 = J 6 := j_up_cell _ (by decide) _ _
        have c1' : J 13 (1 * 1189 + q) = I 15 q := c1.symm
        by_cases hz : I 15 q = 0
        · simp (decide := true) only [B224_0, g_per_r, perv, B224_4, g_pl_r hc, B224_15, jin_13, cl_1, hd', hx', h3, ga, B224_50, x1, k1, e5, a1, x2, a2, x3, k2, k3, nb1, s2, s4, c1', hz, B224_110, hm q hp, s1, ↓reduceIte, Option.toList_some, Option.toList_none, List.cons_append, List.nil_append, List.append_nil]
        · have hv := (c3 (i01_ne c2 hz)).1
          have hv' : J 14 (1 * 1189 + q) = I 14 q := hv.symm
          simp (decide := true) only [B224_0, g_per_r, perv, B224_4, g_pl_r hc, B224_15, jin_13, cl_1, hd', hx', h3, ga, B224_50, x1, k1, e5, a1, x2, a2, x3, k2, k3, nb1, s2, s3, c1', hz, hv', B224_110, s1, ↓reduceIte, Option.toList_some, Option.toList_none, List.cons_append, List.nil_append, List.append_nil]
  · left
    have hd' : ¬ J 0 18 = 0 := h0 ▸ hd
    refine ⟨.int (-3), ?_, ?_⟩
    · simp (decide := true) only [B170_0_p1, g_per_c, perv, B170_4_p1, g_pl_c, B170_14_p1, hd, h3, ↓reduceIte, Option.toList_some, Option.toList_none, List.cons_append, List.nil_append, List.append_nil]
    · simp (decide := true) only [B224_0, g_per_r, perv, B224_4, g_pl_r hc, B224_15, hd', h3, ↓reduceIte, Option.toList_some, Option.toList_none, List.cons_append, List.nil_append, List.append_nil]
/-- how many rows were written -/
theorem cnt_r1 (h : ∀ r, r < 148 → i01 (J 12 (1 * 148 + r))) : jv (e + 1) 233 35 [some (.ref 0), some (.int 1), some (.int 0), some (.int 0)] [] (shR, J, L', pR) = some (some (.int (l_sm (fun r => J 12 (1 * 148 + r)) 148)), (shR, endJ 1 J, L', pR)) := by
  have hh := j_run (fun i => jv (e + 1) 233 35 [some (.ref 0), some (.int 1), some (.int (l_sm (fun r => J 12 (1 * 148 + r)) i)), some (.int (nI i))] [] (shR, J, L', pR)) 148 (fun i hi => by
    show jv (e + 1) 233 35 _ _ _ = jv (e + 1) 233 35 _ _ _
    have a1 : (1 : Int32) * 148 + nI i = nI (1 * 148 + i) := by rw [show (1 : Int32) = nI 1 from rfl, show (148 : Int32) = nI 148 from rfl, nI_mul, nI_add]
    rw [B233_35, if_pos (show nI i < (148 : Int32) from nI_lt hi (by decide)), a1, if_pos (j_in_nI (by omega) (by decide)), nI_clamp (by omega)]
    show _ = jv (e + 1) 233 35 [some (.ref 0), some (.int 1), some (.int (l_sm (fun r => J 12 (1 * 148 + r)) i + J 12 (1 * 148 + i))), some (.int (nI (i + 1)))] [] (shR, J, L', pR)
    by_cases hz : J 12 (1 * 148 + i) = 0
    · rw [if_pos hz, B233_63, nI_1, hz]
    · rw [if_neg hz, B233_63, nI_1, i01_ne (h i hi) hz])
  refine hh.trans ?_
  show jv (e + 1) 233 35 [some (.ref 0), some (.int 1), some (.int (l_sm (fun r => J 12 (1 * 148 + r)) 148)), some (.int (nI 148))] [] (shR, J, L', pR) = _
  rw [B233_35, if_neg (by decide), g_end_r1]
  dsimp only [Option.toList_none, List.nil_append]
  rw [B233_76]
theorem leave_1 (h : perRel 1 13 I J) (h0 : I 0 11 = J 0 18) : jAsk (jv (d + 1) 177 0 [some (.ref 0), some (.int 1)] [] (shC, I, L, pX pa pb pu pw)) (jv (e + 1) 233 0 [some (.ref 0), some (.int 1), none, none] [] (shR, J, L', pR)) (shC, I, L, pX pa pb pu pw) (shR, J, L', pR) ∨ jAsk (jv (d + 1) 177 0 [some (.ref 0), some (.int 1)] [] (shC, I, L, pX pa pb pu pw)) (jv (e + 1) 233 0 [some (.ref 0), some (.int 1), none, none] [] (shR, J, L', pR)) (shC, j_up I 13 0 0, L, pX pa pb pu pw) (shR, endJ 1 J, L', pR) := by
  obtain ⟨q1, q2, q3⟩ := h
  by_cases hd : I 0 11 = 0
  · have hd' : J 0 18 = 0 := h0 ▸ hd
    by_cases hb : I 13 0 = 0
    · left
      have hb' : J 9 1 = 0 := q1 ▸ hb
      refine ⟨.int (-2), ?_, ?_⟩
      · simp (decide := true) only [B177_0_p1, g_per_c, perv, B177_4_p1, hd, hb, jin_13, ↓reduceIte, Option.toList_some, Option.toList_none, List.cons_append, List.nil_append, List.append_nil]
      · simp (decide := true) only [B233_0, g_per_r, perv, B233_4, hd', hb', cl_1, jin_13, ↓reduceIte, Option.toList_some, Option.toList_none, List.cons_append, List.nil_append, List.append_nil]
    · right
      have hb' : ¬ J 9 1 = 0 := q1 ▸ hb
      have h3 := (q3 (i01_ne q2 hb')).2.2
      have es : l_sm (j_up I 13 0 0 17) 148 = l_sm (fun r => J 12 (1 * 148 + r)) 148 := by
        have : ∀ n, n ≤ 148 → l_sm (j_up I 13 0 0 17) n = l_sm (fun r => J 12 (1 * 148 + r)) n := by
          intro n
          induction n with
          | zero => intro _; rfl
          | succ n ih =>
            intro hn
            show l_sm (j_up I 13 0 0 17) n + j_up I 13 0 0 17 n = l_sm (fun r => J 12 (1 * 148 + r)) n + J 12 (1 * 148 + n)
            rw [ih (by omega), j_up_cell _ (by decide)]
            exact congrArg _ (h3 n (by omega)).1
        exact this 148 (Nat.le_refl _)
      refine ⟨.int (l_sm (fun r => J 12 (1 * 148 + r)) 148), ?_, ?_⟩
      · simp (decide := true) only [B177_0_p1, g_per_c, perv, B177_4_p1, hd, hb, jin_13, nb0, g_rows_13, B177_53_p1, es, ↓reduceIte, Option.toList_some, Option.toList_none, List.cons_append, List.nil_append, List.append_nil]
      · have hq := cnt_r1 (e := e) (L' := L') (J := J) (fun r hr => by have := h3 r hr; rw [← this.1]; exact this.2.1)
        simp (decide := true) only [B233_0, g_per_r, perv, B233_4, hd', hb', cl_1, jin_13, hq, ↓reduceIte, Option.toList_some, Option.toList_none, List.cons_append, List.nil_append, List.append_nil]
  · left
    have hd' : ¬ J 0 18 = 0 := h0 ▸ hd
    refine ⟨.int (-3), ?_, ?_⟩
    · simp (decide := true) only [B177_0_p1, g_per_c, perv, B177_4_p1, hd, ↓reduceIte, Option.toList_some, Option.toList_none, List.cons_append, List.nil_append, List.append_nil]
    · simp (decide := true) only [B233_0, g_per_r, perv, B233_4, hd', ↓reduceIte, Option.toList_some, Option.toList_none, List.cons_append, List.nil_append, List.append_nil]
theorem g_end_r2 : jgo jTT jMM (d + 1) 221 [.ref 0, .int 2] (shR, J, L', pR) K = K none (shR, endJ 2 J, L', pR) := g_end_r (p := 2) (by decide)
theorem g_begin_18 (c : Int32) : jgo jTT jMM (d + 2) 70 [.ref 18, .int c] (shC, I, L, pX pa pb pu pw) K = K none (shC, bgI18 I c, L, pX pa pb pu pw) := jgo_some rfl (begin_18 c)
theorem g_rows_18 : jgo jTT jMM (d + 1) 75 [.ref 18] (shC, I, L, pX pa pb pu pw) K = K (some (.int (l_sm (I 22) 148))) (shC, I, L, pX pa pb pu pw) := jgo_some rfl (rows_18 none none)
theorem bgI18_o (c : Int32) {x : Nat} (h1 : x ≠ 18) (h2 : x ≠ 20) (h3 : x ≠ 21) (h4 : x ≠ 22) : bgI18 I c x = I x := by
  unfold bgI18
  rw [va_up_ne _ _ h4, va_up_ne _ _ h3, va_up_ne _ _ h2, j_up_cell _ h1, j_up_cell _ h1]
theorem bgI18_b (c : Int32) (f : Nat) : bgI18 I c 18 f = if f = 1 then c else if f = 0 then 1 else I 18 f := by
  unfold bgI18
  rw [va_up_ne _ _ (by decide), va_up_ne _ _ (by decide), va_up_ne _ _ (by decide), j_up_own, j_up_own]
theorem bgI18_s (c : Int32) {q : Nat} (hq : q < 1189) : bgI18 I c 20 q = 0 := by
  unfold bgI18
  rw [va_up_ne _ _ (by decide), va_up_ne _ _ (by decide), va_up_self]
  unfold j_fill
  rw [if_pos hq]
theorem bgI18_e (c : Int32) {q : Nat} (hq : q < 148) : bgI18 I c 21 q = 0 := by
  unfold bgI18
  rw [va_up_ne _ _ (by decide), va_up_self]
  unfold j_fill
  rw [if_pos hq]
theorem bgI18_w (c : Int32) {q : Nat} (hq : q < 148) : bgI18 I c 22 q = 0 := by
  unfold bgI18
  rw [va_up_self]
  unfold j_fill
  rw [if_pos hq]
/-- a transaction begins -/
theorem beg_2 (c : Int32) (hc : c = J 0 15) : perRel 2 18 (bgI18 I c) (opJ 2 J) := by
  have o9 : opJ 2 J 9 2 = 1 := by unfold opJ; rw [j_up_cell _ (by decide), j_up_own, if_pos rfl]
  have oc : ∀ x, x ≠ 10 → x ≠ 9 → opJ 2 J x = endJ 2 J x := fun x h1 h2 => by unfold opJ; rw [j_up_cell _ h1, j_up_cell _ h2]
  refine ⟨by rw [bgI18_b, o9]; rfl, Or.inr o9, fun _ => ⟨?_, fun q hq => ?_, fun r hr => ?_⟩⟩
  · rw [bgI18_b, if_pos rfl, hc]; unfold opJ; rw [j_up_own, if_pos rfl]
  · rw [bgI18_s c hq, oc 13 (by decide) (by decide), endJ_13, clr_in (by omega)]
    exact ⟨rfl, Or.inl rfl, fun z => absurd z (by decide)⟩
  · rw [bgI18_w c hr, bgI18_e c hr, oc 12 (by decide) (by decide), oc 11 (by decide) (by decide), endJ_12, endJ_11, clr_in (by omega), clr_in (by omega)]
    exact ⟨rfl, Or.inl rfl, Or.inl rfl, rfl⟩
theorem open_2 (h : perRel 2 18 I J) (h0 : I 0 11 = J 0 18) (h8 : I 0 8 = J 0 15) : jAsk (jv (d + 3) 168 0 [some (.ref 0), some (.int 2)] [] (shC, I, L, pX pa pb pu pw)) (jv (e + 1) 220 0 [some (.ref 0), some (.int 2)] [] (shR, J, L', pR)) (shC, I, L, pX pa pb pu pw) (shR, J, L', pR) ∨ jAsk (jv (d + 3) 168 0 [some (.ref 0), some (.int 2)] [] (shC, I, L, pX pa pb pu pw)) (jv (e + 1) 220 0 [some (.ref 0), some (.int 2)] [] (shR, J, L', pR)) (shC, bgI18 I (I 0 8), L, pX pa pb pu pw) (shR, opJ 2 J, L', pR) := by
  obtain ⟨q1, q2, q3⟩ := h
  by_cases hd : I 0 11 = 0
  · have hd' : J 0 18 = 0 := h0 ▸ hd
    by_cases hb : I 18 0 = 0
    · right
      have hb' : J 9 2 = 0 := q1 ▸ hb
      have z : bgI18 I (I 0 8) 0 8 = I 0 8 := by rw [bgI18_o _ (by decide) (by decide) (by decide) (by decide)]
      refine ⟨.int (I 0 8), ?_, ?_⟩
      · simp (decide := true) only [B168_0_p2, g_per_c, perv, B168_4_p2, hd, hb, g_begin_18, B168_47_p2, z, jin_23, ↓reduceIte, Option.toList_some, Option.toList_none, List.cons_append, List.nil_append, List.append_nil]
      · simp (decide := true) only [B220_0, g_per_r, perv, B220_4, hd', hb', g_end_r2, B220_36, nb1, cl_2, jin_23, opJ_15, ↓reduceIte, Option.toList_some, Option.toList_none, List.cons_append, List.nil_append, List.append_nil]
        rw [opJ_o 2 J (by decide) (by decide) (by decide) (by decide) (by decide), h8]
    · left
      have hb' : ¬ J 9 2 = 0 := q1 ▸ hb
      refine ⟨.int (-2), ?_, ?_⟩
      · simp (decide := true) only [B168_0_p2, g_per_c, perv, B168_4_p2, hd, hb, jin_23, ↓reduceIte, Option.toList_some, Option.toList_none, List.cons_append, List.nil_append, List.append_nil]
      · simp (decide := true) only [B220_0, g_per_r, perv, B220_4, hd', hb', cl_2, jin_23, ↓reduceIte, Option.toList_some, Option.toList_none, List.cons_append, List.nil_append, List.append_nil]
  · left
    have hd' : ¬ J 0 18 = 0 := h0 ▸ hd
    refine ⟨.int (-3), ?_, ?_⟩
    · simp (decide := true) only [B168_0_p2, g_per_c, perv, B168_4_p2, hd, ↓reduceIte, Option.toList_some, Option.toList_none, List.cons_append, List.nil_append, List.append_nil]
    · simp (decide := true) only [B220_0, g_per_r, perv, B220_4, hd', ↓reduceIte, Option.toList_some, Option.toList_none, List.cons_append, List.nil_append, List.append_nil]
theorem g_set_r2 (hc : rCst J) {q : Nat} (hq : q < 1189) (hr : rowN.getD q 0 < 148) (v : Int32) : jgo jTT jMM (d + 1) 222 [.ref 0, .int 2, .int (nI q), .int v] (shR, J, L', pR) K = K none (shR, setJ 2 q (rowN.getD q 0) v J, L', pR) := jgo_some rfl (set_r (p := 2) hc (by decide) hq hr v)
/-- a field is written -/
theorem wri_2 (h : perRel 2 18 I J) (h1 : J 9 2 = 1) {q r : Nat} (hq : q < 1189) (hr : r < 148) {v : Int32} (hv : okV q v) : perRel 2 18 (stI18 I q r v) (setJ 2 q r v J) := by
  obtain ⟨a1, a2, a3⟩ := h
  obtain ⟨b1, b2, b3⟩ := a3 h1
  have io : ∀ c, c ≠ 19 → c ≠ 20 → c ≠ 22 → stI18 I q r v c = I c := fun c x y z => by unfold stI18; rw [j_up_cell _ z, j_up_cell _ y, j_up_cell _ x]
  have iv : ∀ j, stI18 I q r v 19 j = if j = q then v else I 19 j := fun j => by unfold stI18; rw [j_up_cell _ (by decide), j_up_cell _ (by decide), j_up_own]
  have is : ∀ j, stI18 I q r v 20 j = if j = q then 1 else I 20 j := fun j => by unfold stI18; rw [j_up_cell _ (by decide), j_up_own, j_up_cell _ (by decide)]
  have iw : ∀ j, stI18 I q r v 22 j = if j = r then 1 else I 22 j := fun j => by unfold stI18; rw [j_up_own, j_up_cell _ (by decide), j_up_cell _ (by decide)]
  have jo : ∀ c, c ≠ 11 → c ≠ 12 → c ≠ 13 → c ≠ 14 → setJ 2 q r v J c = J c := fun c x y z u => by unfold setJ; rw [j_up_cell _ y, j_up_cell _ x, j_up_cell _ u, j_up_cell _ z]
  have j11 : ∀ j, setJ 2 q r v J 11 j = if j = 2 * 148 + r then 1 else J 11 j := fun j => by unfold setJ; rw [j_up_cell _ (by decide), j_up_own, j_up_cell _ (by decide), j_up_cell _ (by decide)]
  have j12 : ∀ j, setJ 2 q r v J 12 j = if j = 2 * 148 + r then 1 else J 12 j := fun j => by unfold setJ; rw [j_up_own, j_up_cell _ (by decide), j_up_cell _ (by decide), j_up_cell _ (by decide)]
  have j13 : ∀ j, setJ 2 q r v J 13 j = if j = 2 * 1189 + q then 1 else J 13 j := fun j => by unfold setJ; rw [j_up_cell _ (by decide), j_up_cell _ (by decide), j_up_cell _ (by decide), j_up_own]
  have j14 : ∀ j, setJ 2 q r v J 14 j = if j = 2 * 1189 + q then v else J 14 j := fun j => by unfold setJ; rw [j_up_cell _ (by decide), j_up_cell _ (by decide), j_up_own, j_up_cell _ (by decide)]
  refine ⟨by rw [io 18 (by decide) (by decide) (by decide), jo 9 (by decide) (by decide) (by decide) (by decide)]; exact a1, by rw [jo 9 (by decide) (by decide) (by decide) (by decide)]; exact a2, fun _ => ⟨?_, fun i hi => ?_, fun i hi => ?_⟩⟩
  · rw [io 18 (by decide) (by decide) (by decide), jo 10 (by decide) (by decide) (by decide) (by decide)]; exact b1
  · show stI18 I q r v 20 i = setJ 2 q r v J 13 (2 * 1189 + i) ∧ i01 (stI18 I q r v 20 i) ∧ (stI18 I q r v 20 i = 1 → stI18 I q r v 19 i = setJ 2 q r v J 14 (2 * 1189 + i) ∧ okV i (stI18 I q r v 19 i))
    rw [is, iv, j13, j14]
    by_cases hx : i = q
    · subst hx
      simp only [↓reduceIte]
      exact ⟨trivial, Or.inr rfl, fun _ => ⟨trivial, hv⟩⟩
    · rw [if_neg hx, if_neg hx, if_neg (by omega), if_neg (by omega)]
      exact b2 i hi
  · show stI18 I q r v 22 i = setJ 2 q r v J 12 (2 * 148 + i) ∧ i01 (stI18 I q r v 22 i) ∧ i01 (stI18 I q r v 21 i) ∧ setJ 2 q r v J 11 (2 * 148 + i) = if stI18 I q r v 21 i = 1 ∨ stI18 I q r v 22 i = 1 then 1 else 0
    rw [iw, j12, j11, io 21 (by decide) (by decide) (by decide)]
    obtain ⟨c1, c2, c3, c4⟩ := b3 i hi
    by_cases hx : i = r
    · subst hx
      simp only [↓reduceIte, or_true]
      exact ⟨trivial, Or.inr rfl, c3, trivial⟩
    · rw [if_neg hx, if_neg (by omega), if_neg (by omega)]
      exact ⟨c1, c2, c3, c4⟩
theorem put_2 (h : perRel 2 18 I J) (h0 : I 0 11 = J 0 18) (hc : rCst J) (t r f v : Int32) : jAsk (jv (d + 1) 169 0 [some (.ref 0), some (.int 2), some (.int t), some (.int r), some (.int f), some (.int v)] [] (shC, I, L, pX pa pb pu pw)) (jv (e + 1) 223 0 [some (.ref 0), some (.int 2), some (.int t), some (.int r), some (.int f), some (.int v)] [] (shR, J, L', pR)) (shC, I, L, pX pa pb pu pw) (shR, J, L', pR) ∨ ∃ q x : Nat, q < 1189 ∧ x < 148 ∧ okV q v ∧ J 9 2 = 1 ∧ jAsk (jv (d + 1) 169 0 [some (.ref 0), some (.int 2), some (.int t), some (.int r), some (.int f), some (.int v)] [] (shC, I, L, pX pa pb pu pw)) (jv (e + 1) 223 0 [some (.ref 0), some (.int 2), some (.int t), some (.int r), some (.int f), some (.int v)] [] (shR, J, L', pR)) (shC, stI18 I q x v, L, pX pa pb pu pw) (shR, setJ 2 q x v J, L', pR) := by
  obtain ⟨q1, q2, q3⟩ := h
  by_cases h2 : t = 12
  · left
    refine ⟨.int (-1), ?_, ?_⟩
    · simp (decide := true) only [B169_0_p2, g_per_c, perv, B169_4_p2, B169_34_p2, h2, ↓reduceIte, Option.toList_some, Option.toList_none, List.cons_append, List.nil_append, List.append_nil]
    · simp (decide := true) only [B223_0, g_per_r, perv, B223_4, B223_46, h2, ↓reduceIte, Option.toList_some, Option.toList_none, List.cons_append, List.nil_append, List.append_nil]
  by_cases h3 : plv t r f = 0
  · left
    refine ⟨.int (-1), ?_, ?_⟩
    · simp (decide := true) only [B169_0_p2, g_per_c, perv, B169_4_p2, g_pl_c, B169_20_p2, B169_34_p2, h2, h3, ↓reduceIte, Option.toList_some, Option.toList_none, List.cons_append, List.nil_append, List.append_nil]
    · simp (decide := true) only [B223_0, g_per_r, perv, B223_4, g_pl_r hc, B223_21, B223_46, h2, h3, ↓reduceIte, Option.toList_some, Option.toList_none, List.cons_append, List.nil_append, List.append_nil]
  obtain ⟨a, b, c, ha, hb, hf, rfl, rfl, rfl⟩ := plv_1 h3
  have ha2 : a < 12 := by
    rcases Nat.lt_or_ge a 12 with q | q
    · exact q
    · exact absurd (by rw [show a = 12 by omega]; rfl) h2
  have h14 := tab_F14 a ha2
  have ja : j_in (nI a) 13 = true := j_in_nI ha (by decide)
  have hp := place_lt ha hb hf
  obtain ⟨rw1, rw2⟩ := row_lt ha hb hf
  by_cases h4 : v < leastv a c
  · left
    refine ⟨.int (-1), ?_, ?_⟩
    · simp (decide := true) only [B169_0_p2, g_per_c, perv, B169_4_p2, g_pl_c, B169_20_p2, g_mb ha2 hf v, mbv, B169_31_p2, B169_34_p2, h2, h3, h4, ↓reduceIte, Option.toList_some, Option.toList_none, List.cons_append, List.nil_append, List.append_nil]
    · simp (decide := true) only [B223_0, g_per_r, perv, B223_4, g_pl_r hc, B223_21, g_least ha (show c < 400 by omega), B223_32, B223_46, h2, h3, h4, ↓reduceIte, Option.toList_some, Option.toList_none, List.cons_append, List.nil_append, List.append_nil]
  by_cases h5 : mostv a c < v
  · left
    refine ⟨.int (-1), ?_, ?_⟩
    · simp (decide := true) only [B169_0_p2, g_per_c, perv, B169_4_p2, g_pl_c, B169_20_p2, g_mb ha2 hf v, mbv, B169_31_p2, B169_34_p2, h2, h3, h4, h5, ↓reduceIte, Option.toList_some, Option.toList_none, List.cons_append, List.nil_append, List.append_nil]
    · simp (decide := true) only [B223_0, g_per_r, perv, B223_4, g_pl_r hc, B223_21, g_least ha (show c < 400 by omega), B223_32, g_most ha (show c < 400 by omega), B223_43, B223_46, h2, h3, h4, h5, ↓reduceIte, Option.toList_some, Option.toList_none, List.cons_append, List.nil_append, List.append_nil]
  by_cases hd : I 0 11 = 0
  · have hd' : J 0 18 = 0 := h0 ▸ hd
    by_cases hx : I 18 0 = 0
    · left
      have hx' : J 9 2 = 0 := q1 ▸ hx
      refine ⟨.int (-2), ?_, ?_⟩
      · simp (decide := true) only [B169_0_p2, g_per_c, perv, B169_4_p2, g_pl_c, B169_20_p2, g_mb ha2 hf v, mbv, B169_31_p2, jin_23, hd, hx, h2, h3, h4, h5, ↓reduceIte, Option.toList_some, Option.toList_none, List.cons_append, List.nil_append, List.append_nil]
      · simp (decide := true) only [B223_0, g_per_r, perv, B223_4, g_pl_r hc, B223_21, g_least ha (show c < 400 by omega), B223_32, g_most ha (show c < 400 by omega), B223_43, jin_23, cl_2, hd', hx', h2, h3, h4, h5, ↓reduceIte, Option.toList_some, Option.toList_none, List.cons_append, List.nil_append, List.append_nil]
    · right
      have hx' : ¬ J 9 2 = 0 := q1 ▸ hx
      refine ⟨_, _, hp, rw2, ⟨fun a' b' c' ha' hb' hc' he => ?_, fun he => ?_⟩, i01_ne q2 hx', .int 1, ?_, ?_⟩
      · obtain ⟨rfl, rfl, rfl⟩ := place_inj ha hb hf (by omega) hb' hc' he
        unfold mbv
        rw [if_neg h4, if_neg h5]
      · have := tab_place ha hb hf
        have h12 : fpN.getD (a + 1) 0 ≤ fpN.getD 12 0 := by
          rcases Nat.lt_or_ge (a + 1) 12 with z | z
          · have := fp_mono a ha 12 (by decide) (by omega); omega
          · rw [show a + 1 = 12 by omega]; exact Nat.le_refl _
        have h888 : fpN.getD 12 0 = 888 := by decide
        omega
      · simp (decide := true) only [B169_0_p2, g_per_c, perv, B169_4_p2, g_pl_c, B169_20_p2, g_mb ha2 hf v, mbv, B169_31_p2, jin_23, hd, hx, h2, h3, h4, h5, g_place ha hb hf, B169_74_p2, ja, fr_row ha, g_set_18 hp rw2, B169_86_p2, ↓reduceIte, Option.toList_some, Option.toList_none, List.cons_append, List.nil_append, List.append_nil]
      · have gs := fun K => g_set_r2 (d := e) (L' := L') (K := K) hc hp (by rw [rw1]; exact rw2) v
        rw [rw1] at gs
        simp (decide := true) only [B223_0, g_per_r, perv, B223_4, g_pl_r hc, B223_21, g_least ha (show c < 400 by omega), B223_32, g_most ha (show c < 400 by omega), B223_43, jin_23, cl_2, hd', hx', h2, h3, h4, h5, g_atN hc ha, B223_80, gs, B223_85, ↓reduceIte, Option.toList_some, Option.toList_none, List.cons_append, List.nil_append, List.append_nil]
  · left
    have hd' : ¬ J 0 18 = 0 := h0 ▸ hd
    refine ⟨.int (-3), ?_, ?_⟩
    · simp (decide := true) only [B169_0_p2, g_per_c, perv, B169_4_p2, g_pl_c, B169_20_p2, g_mb ha2 hf v, mbv, B169_31_p2, hd, h2, h3, h4, h5, ↓reduceIte, Option.toList_some, Option.toList_none, List.cons_append, List.nil_append, List.append_nil]
    · simp (decide := true) only [B223_0, g_per_r, perv, B223_4, g_pl_r hc, B223_21, g_least ha (show c < 400 by omega), B223_32, g_most ha (show c < 400 by omega), B223_43, hd', h2, h3, h4, h5, ↓reduceIte, Option.toList_some, Option.toList_none, List.cons_append, List.nil_append, List.append_nil]
/-- a field is read -/
theorem rea_2 (h : perRel 2 18 I J) (h1 : J 9 2 = 1) {r : Nat} (hr : r < 148) : perRel 2 18 (j_up I 21 r 1) (seJ 2 r J) := by
  obtain ⟨a1, a2, a3⟩ := h
  obtain ⟨b1, b2, b3⟩ := a3 h1
  have io : ∀ c, c ≠ 21 → j_up I 21 r 1 c = I c := fun c x => j_up_cell _ x _ _
  have jo : ∀ c, c ≠ 11 → seJ 2 r J c = J c := fun c x => by unfold seJ; rw [j_up_cell _ x]
  have j11 : ∀ j, seJ 2 r J 11 j = if j = 2 * 148 + r then 1 else J 11 j := fun j => by unfold seJ; rw [j_up_own]
  refine ⟨by rw [io 18 (by decide), jo 9 (by decide)]; exact a1, by rw [jo 9 (by decide)]; exact a2, fun _ => ⟨?_, fun i hi => ?_, fun i hi => ?_⟩⟩
  · rw [io 18 (by decide), jo 10 (by decide)]; exact b1
  · rw [io (18 + 2) (by decide), io (18 + 1) (by decide), jo 13 (by decide), jo 14 (by decide)]; exact b2 i hi
  · rw [io (18 + 4) (by decide), jo 12 (by decide), j11]
    obtain ⟨c1, c2, c3, c4⟩ := b3 i hi
    show _ ∧ _ ∧ i01 (j_up I 21 r 1 21 i) ∧ _ = if j_up I 21 r 1 21 i = 1 ∨ _ then 1 else 0
    rw [j_up_own]
    by_cases hx : i = r
    · subst hx
      simp only [↓reduceIte, true_or]
      exact ⟨c1, c2, Or.inr rfl, trivial⟩
    · rw [if_neg hx, if_neg (by omega)]
      exact ⟨c1, c2, c3, c4⟩
theorem get_2 (h : perRel 2 18 I J) (h0 : I 0 11 = J 0 18) (hm : ∀ q, q < 1189 → I 2 q = J 6 q) (hc : rCst J) (t r f : Int32) : jAsk (jv (d + 3) 170 0 [some (.ref 0), some (.int 2), some (.int t), some (.int r), some (.int f)] [] (shC, I, L, pX pa pb pu pw)) (jv (e + 1) 224 0 [some (.ref 0), some (.int 2), some (.int t), some (.int r), some (.int f), none] [] (shR, J, L', pR)) (shC, I, L, pX pa pb pu pw) (shR, J, L', pR) ∨ ∃ x : Nat, x < 148 ∧ J 9 2 = 1 ∧ jAsk (jv (d + 3) 170 0 [some (.ref 0), some (.int 2), some (.int t), some (.int r), some (.int f)] [] (shC, I, L, pX pa pb pu pw)) (jv (e + 1) 224 0 [some (.ref 0), some (.int 2), some (.int t), some (.int r), some (.int f), none] [] (shR, J, L', pR)) (shC, j_up I 21 x 1, L, pX pa pb pu pw) (shR, seJ 2 x J, L', pR) := by
  obtain ⟨q1, q2, q3⟩ := h
  by_cases h3 : plv t r f = 0
  · left
    refine ⟨.int (-1), ?_, ?_⟩
    · simp (decide := true) only [B170_0_p2, g_per_c, perv, B170_4_p2, g_pl_c, B170_14_p2, B170_17_p2, h3, ↓reduceIte, Option.toList_some, Option.toList_none, List.cons_append, List.nil_append, List.append_nil]
    · simp (decide := true) only [B224_0, g_per_r, perv, B224_4, g_pl_r hc, B224_15, B224_18, h3, ↓reduceIte, Option.toList_some, Option.toList_none, List.cons_append, List.nil_append, List.append_nil]
  obtain ⟨a, b, c, ha, hb, hf, rfl, rfl, rfl⟩ := plv_1 h3
  have ja : j_in (nI a) 13 = true := j_in_nI ha (by decide)
  have hp := place_lt ha hb hf
  obtain ⟨rw1, rw2⟩ := row_lt ha hb hf
  by_cases hd : I 0 11 = 0
  · have hd' : J 0 18 = 0 := h0 ▸ hd
    by_cases hx : I 18 0 = 0
    · left
      have hx' : J 9 2 = 0 := q1 ▸ hx
      refine ⟨.int (-2), ?_, ?_⟩
      · simp (decide := true) only [B170_0_p2, g_per_c, perv, B170_4_p2, g_pl_c, B170_14_p2, jin_23, hd, hx, h3, ↓reduceIte, Option.toList_some, Option.toList_none, List.cons_append, List.nil_append, List.append_nil]
      · simp (decide := true) only [B224_0, g_per_r, perv, B224_4, g_pl_r hc, B224_15, jin_23, cl_2, hd', hx', h3, ↓reduceIte, Option.toList_some, Option.toList_none, List.cons_append, List.nil_append, List.append_nil]
    · right
      have hx' : ¬ J 9 2 = 0 := q1 ▸ hx
      have hbu := i01_ne q2 hx'
      generalize hq : fpN.getD a 0 + b * fieldsN.getD a 0 + c = q at *
      generalize hrr : frN.getD a 0 + b = x at *
      obtain ⟨c1, c2, c3⟩ := (q3 hbu).2.1 q hp
      refine ⟨x, rw2, hbu, .int (if I 20 q = 0 then I 2 q else I 19 q), ?_, ?_⟩
      · have gp := fun K => g_place (d := d + 2) (I := I) (L := L) (pa := pa) (pb := pb) (pu := pu) (pw := pw) (K := K) ha hb hf
        have fr := fr_row (b := b) ha
        rw [hq] at gp
        rw [hrr] at fr
        simp (decide := true) only [B170_0_p2, g_per_c, perv, B170_4_p2, g_pl_c, B170_14_p2, jin_23, hd, hx, h3, gp, B170_57_p2, ja, fr, g_see_18 hp rw2, B170_71_p2, ↓reduceIte, Option.toList_some, Option.toList_none, List.cons_append, List.nil_append, List.append_nil]
      · have ga := fun K => g_atN (d := e) (L := L') (K := K) hc ha (b := b) (c := c)
        rw [hq] at ga
        have e5 := hc.2.2.2.2 q hp
        have x1 : j_in (nI q) 1189 = true := j_in_nI hp (by decide)
        have a1 : (2 : Int32) * 148 + nI (rowN.getD q 0) = nI (2 * 148 + x) := by rw [show (2 : Int32) = nI 2 from rfl, show (148 : Int32) = nI 148 from rfl, nI_mul, nI_add, rw1]
        have a2 : (2 : Int32) * 1189 + nI q = nI (2 * 1189 + q) := by rw [show (2 : Int32) = nI 2 from rfl, show (1189 : Int32) = nI 1189 from rfl, nI_mul, nI_add]
        have x2 : j_in (nI (2 * 148 + x)) 444 = true := j_in_nI (by omega) (by decide)
        have x3 : j_in (nI (2 * 1189 + q)) 3567 = true := j_in_nI (by omega) (by decide)
        have k1 : (nI q).toNatClampNeg = q := nI_clamp (by omega)
        have k2 : (nI (2 * 148 + x)).toNatClampNeg = 2 * 148 + x := nI_clamp (by omega)
        have k3 : (nI (2 * 1189 + q)).toNatClampNeg = 2 * 1189 + q := nI_clamp (by omega)
        have s1 : seJ 2 x J = j_up J 11 (2 * 148 + x) 1 := rfl
        have s2 : j_up J 11 (2 * 148 + x) 1 13 = J 13 := j_up_cell _ (by decide) _ _
        have s3 : j_up J 11 (2 * 148 + x) 1 14 = J 14 := j_up_cell _ (by decide) _ _
        have s4 : j_up J 11 (2 * 148 + x) 1 6 = J 6 := j_up_cell _ (by decide) _ _
        have c1' : J 13 (2 * 1189 + q) = I 20 q := c1.symm
        by_cases hz : I 20 q = 0
        · simp (decide := true) only [B224_0, g_per_r, perv, B224_4, g_pl_r hc, B224_15, jin_23, cl_2, hd', hx', h3, ga, B224_50, x1, k1, e5, a1, x2, a2, x3, k2, k3, nb1, s2, s4, c1', hz, B224_110, hm q hp, s1, ↓reduceIte, Option.toList_some, Option.toList_none, List.cons_append, List.nil_append, List.append_nil]
        · have hv := (c3 (i01_ne c2 hz)).1
          have hv' : J 14 (2 * 1189 + q) = I 19 q := hv.symm
          simp (decide := true) only [B224_0, g_per_r, perv, B224_4, g_pl_r hc, B224_15, jin_23, cl_2, hd', hx', h3, ga, B224_50, x1, k1, e5, a1, x2, a2, x3, k2, k3, nb1, s2, s3, c1', hz, hv', B224_110, s1, ↓reduceIte, Option.toList_some, Option.toList_none, List.cons_append, List.nil_append, List.append_nil]
  · left
    have hd' : ¬ J 0 18 = 0 := h0 ▸ hd
    refine ⟨.int (-3), ?_, ?_⟩
    · simp (decide := true) only [B170_0_p2, g_per_c, perv, B170_4_p2, g_pl_c, B170_14_p2, hd, h3, ↓reduceIte, Option.toList_some, Option.toList_none, List.cons_append, List.nil_append, List.append_nil]
    · simp (decide := true) only [B224_0, g_per_r, perv, B224_4, g_pl_r hc, B224_15, hd', h3, ↓reduceIte, Option.toList_some, Option.toList_none, List.cons_append, List.nil_append, List.append_nil]
/-- how many rows were written -/
theorem cnt_r2 (h : ∀ r, r < 148 → i01 (J 12 (2 * 148 + r))) : jv (e + 1) 233 35 [some (.ref 0), some (.int 2), some (.int 0), some (.int 0)] [] (shR, J, L', pR) = some (some (.int (l_sm (fun r => J 12 (2 * 148 + r)) 148)), (shR, endJ 2 J, L', pR)) := by
  have hh := j_run (fun i => jv (e + 1) 233 35 [some (.ref 0), some (.int 2), some (.int (l_sm (fun r => J 12 (2 * 148 + r)) i)), some (.int (nI i))] [] (shR, J, L', pR)) 148 (fun i hi => by
    show jv (e + 1) 233 35 _ _ _ = jv (e + 1) 233 35 _ _ _
    have a1 : (2 : Int32) * 148 + nI i = nI (2 * 148 + i) := by rw [show (2 : Int32) = nI 2 from rfl, show (148 : Int32) = nI 148 from rfl, nI_mul, nI_add]
    rw [B233_35, if_pos (show nI i < (148 : Int32) from nI_lt hi (by decide)), a1, if_pos (j_in_nI (by omega) (by decide)), nI_clamp (by omega)]
    show _ = jv (e + 1) 233 35 [some (.ref 0), some (.int 2), some (.int (l_sm (fun r => J 12 (2 * 148 + r)) i + J 12 (2 * 148 + i))), some (.int (nI (i + 1)))] [] (shR, J, L', pR)
    by_cases hz : J 12 (2 * 148 + i) = 0
    · rw [if_pos hz, B233_63, nI_1, hz]
    · rw [if_neg hz, B233_63, nI_1, i01_ne (h i hi) hz])
  refine hh.trans ?_
  show jv (e + 1) 233 35 [some (.ref 0), some (.int 2), some (.int (l_sm (fun r => J 12 (2 * 148 + r)) 148)), some (.int (nI 148))] [] (shR, J, L', pR) = _
  rw [B233_35, if_neg (by decide), g_end_r2]
  dsimp only [Option.toList_none, List.nil_append]
  rw [B233_76]
theorem leave_2 (h : perRel 2 18 I J) (h0 : I 0 11 = J 0 18) : jAsk (jv (d + 1) 177 0 [some (.ref 0), some (.int 2)] [] (shC, I, L, pX pa pb pu pw)) (jv (e + 1) 233 0 [some (.ref 0), some (.int 2), none, none] [] (shR, J, L', pR)) (shC, I, L, pX pa pb pu pw) (shR, J, L', pR) ∨ jAsk (jv (d + 1) 177 0 [some (.ref 0), some (.int 2)] [] (shC, I, L, pX pa pb pu pw)) (jv (e + 1) 233 0 [some (.ref 0), some (.int 2), none, none] [] (shR, J, L', pR)) (shC, j_up I 18 0 0, L, pX pa pb pu pw) (shR, endJ 2 J, L', pR) := by
  obtain ⟨q1, q2, q3⟩ := h
  by_cases hd : I 0 11 = 0
  · have hd' : J 0 18 = 0 := h0 ▸ hd
    by_cases hb : I 18 0 = 0
    · left
      have hb' : J 9 2 = 0 := q1 ▸ hb
      refine ⟨.int (-2), ?_, ?_⟩
      · simp (decide := true) only [B177_0_p2, g_per_c, perv, B177_4_p2, hd, hb, jin_23, ↓reduceIte, Option.toList_some, Option.toList_none, List.cons_append, List.nil_append, List.append_nil]
      · simp (decide := true) only [B233_0, g_per_r, perv, B233_4, hd', hb', cl_2, jin_23, ↓reduceIte, Option.toList_some, Option.toList_none, List.cons_append, List.nil_append, List.append_nil]
    · right
      have hb' : ¬ J 9 2 = 0 := q1 ▸ hb
      have h3 := (q3 (i01_ne q2 hb')).2.2
      have es : l_sm (j_up I 18 0 0 22) 148 = l_sm (fun r => J 12 (2 * 148 + r)) 148 := by
        have : ∀ n, n ≤ 148 → l_sm (j_up I 18 0 0 22) n = l_sm (fun r => J 12 (2 * 148 + r)) n := by
          intro n
          induction n with
          | zero => intro _; rfl
          | succ n ih =>
            intro hn
            show l_sm (j_up I 18 0 0 22) n + j_up I 18 0 0 22 n = l_sm (fun r => J 12 (2 * 148 + r)) n + J 12 (2 * 148 + n)
            rw [ih (by omega), j_up_cell _ (by decide)]
            exact congrArg _ (h3 n (by omega)).1
        exact this 148 (Nat.le_refl _)
      refine ⟨.int (l_sm (fun r => J 12 (2 * 148 + r)) 148), ?_, ?_⟩
      · simp (decide := true) only [B177_0_p2, g_per_c, perv, B177_4_p2, hd, hb, jin_23, nb0, g_rows_18, B177_53_p2, es, ↓reduceIte, Option.toList_some, Option.toList_none, List.cons_append, List.nil_append, List.append_nil]
      · have hq := cnt_r2 (e := e) (L' := L') (J := J) (fun r hr => by have := h3 r hr; rw [← this.1]; exact this.2.1)
        simp (decide := true) only [B233_0, g_per_r, perv, B233_4, hd', hb', cl_2, jin_23, hq, ↓reduceIte, Option.toList_some, Option.toList_none, List.cons_append, List.nil_append, List.append_nil]
  · left
    have hd' : ¬ J 0 18 = 0 := h0 ▸ hd
    refine ⟨.int (-3), ?_, ?_⟩
    · simp (decide := true) only [B177_0_p2, g_per_c, perv, B177_4_p2, hd, ↓reduceIte, Option.toList_some, Option.toList_none, List.cons_append, List.nil_append, List.append_nil]
    · simp (decide := true) only [B233_0, g_per_r, perv, B233_4, hd', ↓reduceIte, Option.toList_some, Option.toList_none, List.cons_append, List.nil_append, List.append_nil]
end PCALL
