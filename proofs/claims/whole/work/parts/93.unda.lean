/-! UNDO: up to its judgement, in both -/
section UNDA
variable {d e : Nat} {L L' : Nat → Nat → Int64} {pa pb pu pw : Option Nat}
theorem fr_next : ∀ t, t < 12 → frN.getD (t + 1) 0 = frN.getD t 0 + rowsN.getD t 0 := by decide +kernel
theorem fr_le : ∀ t, t < 13 → ∀ u, u < 13 → t < u → frN.getD t 0 + rowsN.getD t 0 ≤ frN.getD u 0 := by decide +kernel
theorem fp_le : ∀ t, t < 13 → ∀ u, u < 13 → t < u → fpN.getD (t + 1) 0 ≤ fpN.getD u 0 := by decide +kernel
theorem loc_t {x : Nat} (hx : x < 1189) : ∃ t, t < 13 ∧ fpN.getD t 0 ≤ x ∧ x < fpN.getD (t + 1) 0 := by
  have key : ∀ t, t ≤ 12 → x < fpN.getD (t + 1) 0 → ∃ u, u < 13 ∧ fpN.getD u 0 ≤ x ∧ x < fpN.getD (u + 1) 0 := by
    intro t
    induction t with
    | zero => intro _ h; exact ⟨0, by decide, Nat.zero_le _, h⟩
    | succ t ih =>
      intro h1 h2
      by_cases q : x < fpN.getD (t + 1) 0
      · exact ih (by omega) q
      · exact ⟨t + 1, by omega, by omega, h2⟩
  exact key 12 (by decide) hx
theorem rowN_mono {x y : Nat} (h : x ≤ y) (hy : y < 1189) : rowN.getD x 0 ≤ rowN.getD y 0 := by
  obtain ⟨t, t1, t2, t3⟩ := loc_t (show x < 1189 by omega)
  obtain ⟨u, u1, u2, u3⟩ := loc_t hy
  have pt := (tab_fp t t1).1
  have pu := (tab_fp u u1).1
  have rx := tab_row t t1 (x - fpN.getD t 0) (by omega)
  have ry := tab_row u u1 (y - fpN.getD u 0) (by omega)
  rw [show fpN.getD t 0 + (x - fpN.getD t 0) = x by omega] at rx
  rw [show fpN.getD u 0 + (y - fpN.getD u 0) = y by omega] at ry
  rw [rx, ry]
  rcases Nat.lt_trichotomy t u with w | w | w
  · have f := fr_le t t1 u u1 w
    have dl : (x - fpN.getD t 0) / fieldsN.getD t 0 < rowsN.getD t 0 := (Nat.div_lt_iff_lt_mul (fl_pos t t1).1).mpr (by omega)
    generalize (x - fpN.getD t 0) / fieldsN.getD t 0 = l1 at dl ⊢
    generalize (y - fpN.getD u 0) / fieldsN.getD u 0 = n1
    omega
  · subst w
    exact Nat.add_le_add_left (Nat.div_le_div_right (c := fieldsN.getD t 0) (show x - fpN.getD t 0 ≤ y - fpN.getD t 0 by omega)) _
  · have := fp_le u u1 t t1 w
    omega
/-- the log's records: from model to model -/
def lgW (F : Nat → Int32) (cms : Nat) (M : Nat → Nat → Int32) (s : Nat → Nat) : Prop := s 0 = 0 ∧ (∀ k, k < cms → s (k + 1) = s k + 5 + 6 * chN (M k) (M (k + 1)) 1189 ∧ nmV F (s k + 2) 2 = nI (chN (M k) (M (k + 1)) 1189) ∧ recP F (s k) (M k) (M (k + 1)) 1189) ∧ (∀ k, k ≤ cms → ∀ q, q < 1189 → okV q (M k q)) ∧ ∀ q, q < 1189 → M 0 q = m0f q
theorem lgW.mono {F : Nat → Int32} {cms : Nat} {M : Nat → Nat → Int32} {s : Nat → Nat} (h : lgW F cms M s) : ∀ {j k : Nat}, j ≤ k → k ≤ cms → s j ≤ s k := by
  intro j k hjk hk
  induction hjk with
  | refl => exact Nat.le_refl _
  | @step m hm ih =>
    have g1 : s (m + 1) = _ := (h.2.1 m (by omega)).1
    have g2 := ih (by omega)
    show s j ≤ s (m + 1)
    omega
theorem lgW.rc {F : Nat → Int32} {cms : Nat} {M : Nat → Nat → Int32} {s : Nat → Nat} (h : lgW F cms M s) {k : Nat} (hk : k < cms) : rcW F (s k) (chN (M k) (M (k + 1)) 1189) (s cms) := by
  obtain ⟨h1, h2, h3⟩ := h.2.1 k hk
  exact ⟨h2, chN_le _ _ _, by rw [← h1]; exact h.mono (by omega) (Nat.le_refl _)⟩
/-- the past, class -/
theorem past_c {I J : Nat → Nat → Int32} {F : Nat → Int32} {cms : Nat} {M : Nat → Nat → Int32} {s : Nat → Nat} (hl : lgR (s cms) F I J) (hw : lgW F cms M s) {k : Nat} (hk : k < cms) (h6 : ∀ q, q < 1189 → I 6 q = m0f q) (hc : cms < 2 ^ 20) (o4 o5 o6 : Option Value) : ∃ I', (∀ c, c ≠ 6 → I' c = I c) ∧ (∀ q, q < 1189 → I' 6 q = M k q) ∧ jv (d + 5) 178 41 [some (.ref 0), some (.int (nI (k + 1))), some (.int (nI 0)), some (.int (nI 1)), o4, o5, o6] [] (shC, I, L, pX pa pb pu pw) = jv (d + 5) 178 77 [some (.ref 0), some (.int (nI (k + 1))), some (.int (nI (s k))), some (.int (nI (k + 1))), o4, o5, o6] [] (shC, I', L, pX pa pb pu pw) := by
  obtain ⟨I', ⟨a1, a2⟩, a3⟩ := j_runP (α := Nat → Nat → Int32) (fun j I1 => jv (d + 5) 178 41 [some (.ref 0), some (.int (nI (k + 1))), some (.int (nI (s j))), some (.int (nI (j + 1))), o4, o5, o6] [] (shC, I1, L, pX pa pb pu pw)) (fun j I1 => (∀ c, c ≠ 6 → I1 c = I c) ∧ ∀ q, q < 1189 → I1 6 q = M j q) k (fun j hj I1 ht => by
    obtain ⟨b1, b2⟩ := ht
    try dsimp only
    have hl1 : lgR (s cms) F I1 J := ⟨hl.1, by rw [b1 23 (by decide)]; exact hl.2.1, hl.2.2.1, fun i hi => by rw [b1 24 (by decide)]; exact hl.2.2.2 i hi⟩
    have hrc := hw.rc (show j < cms by omega)
    obtain ⟨g1, g2, g3⟩ := hw.2.1 j (by omega)
    obtain ⟨I2, c1, c2, c3⟩ := play5_c (d := d) (L := L) (pa := pa) (pb := pb) (pu := pu) (pw := pw) hl1 hrc g3
    have hl2 : lgR (s cms) F I2 J := ⟨hl1.1, by rw [c1 23 (by decide)]; exact hl1.2.1, hl1.2.2.1, fun i hi => by rw [c1 24 (by decide)]; exact hl1.2.2.2 i hi⟩
    have e2 := end_c (d := d + 2) (L := L) (pa := pa) (pb := pb) (pu := pu) (pw := pw) hl2 hrc
    rw [← g1] at e2
    have hsj : s j ≤ 40000 := Nat.le_trans (hw.mono (show j ≤ cms by omega) (Nat.le_refl _)) hl.1
    rw [B178_41, if_pos (nI_lt (by omega) (by omega)), if_neg (nI_pos (by omega)), jgo_some rfl c3]
    dsimp only [Option.toList_none, List.nil_append]
    rw [B178_62, jgo_some rfl e2]
    dsimp only [Option.toList_some, List.cons_append, List.nil_append]
    rw [B178_70, nI_1]
    exact ⟨I2, ⟨fun c hc => (c1 c hc).trans (b1 c hc), pyR_end c2 b2⟩, rfl⟩) I ⟨fun _ _ => rfl, fun q hq => by rw [hw.2.2.2 q hq]; exact h6 q hq⟩
  refine ⟨I', a1, a2, ?_⟩
  have a3' : jv (d + 5) 178 41 [some (.ref 0), some (.int (nI (k + 1))), some (.int (nI (s 0))), some (.int (nI (0 + 1))), o4, o5, o6] [] (shC, I, L, pX pa pb pu pw) = jv (d + 5) 178 41 [some (.ref 0), some (.int (nI (k + 1))), some (.int (nI (s k))), some (.int (nI (k + 1))), o4, o5, o6] [] (shC, I', L, pX pa pb pu pw) := a3
  rw [hw.1] at a3'
  refine (show _ = _ from a3').trans ?_
  rw [B178_41, if_neg (nI_nlt (Nat.le_refl _) (by omega))]
theorem past_r {I J : Nat → Nat → Int32} {F : Nat → Int32} {cms : Nat} {M : Nat → Nat → Int32} {s : Nat → Nat} (hl : lgR (s cms) F I J) (hw : lgW F cms M s) {k : Nat} (hk : k < cms) (h8 : ∀ q, q < 1189 → J 8 q = m0f q) (hc : cms < 2 ^ 20) (o4 o5 o6 : Option Value) : ∃ J', (∀ c, c ≠ 8 → J' c = J c) ∧ (∀ q, q < 1189 → J' 8 q = M k q) ∧ jv (e + 2) 234 37 [some (.ref 0), some (.int (nI (k + 1))), some (.int (nI 0)), some (.int (nI 1)), o4, o5, o6] [] (shR, J, L', pR) = jv (e + 2) 234 75 [some (.ref 0), some (.int (nI (k + 1))), some (.int (nI (s k))), some (.int (nI (chN (M k) (M (k + 1)) 1189))), some (.int (nI 148)), some (.int (nI 0)), o6] [] (shR, J', L', pR) := by
  obtain ⟨J', ⟨a1, a2⟩, a3⟩ := j_runP (α := Nat → Nat → Int32) (fun j J1 => jv (e + 2) 234 37 [some (.ref 0), some (.int (nI (k + 1))), some (.int (nI (s j))), some (.int (nI (j + 1))), o4, o5, o6] [] (shR, J1, L', pR)) (fun j J1 => (∀ c, c ≠ 8 → J1 c = J c) ∧ ∀ q, q < 1189 → J1 8 q = M j q) k (fun j hj J1 ht => by
    obtain ⟨b1, b2⟩ := ht
    try dsimp only
    have hl1 : lgR (s cms) F I J1 := ⟨hl.1, hl.2.1, by rw [b1 0 (by decide)]; exact hl.2.2.1, fun i hi => by rw [b1 16 (by decide)]; exact hl.2.2.2 i hi⟩
    have hrc := hw.rc (show j < cms by omega)
    obtain ⟨g1, g2, g3⟩ := hw.2.1 j (by omega)
    obtain ⟨J2, c1, c2, c3⟩ := replay8_r (e := e) (L' := L') hl1 hrc g3
    rw [← g1] at c3
    rw [B234_37, if_pos (nI_lt (by omega) (by omega)), jgo_some rfl c3]
    dsimp only [Option.toList_some, List.cons_append, List.nil_append]
    rw [B234_51, nI_1]
    exact ⟨J2, ⟨fun c hc => (c1 c hc).trans (b1 c hc), pyR_end c2 b2⟩, rfl⟩) J ⟨fun _ _ => rfl, fun q hq => by rw [hw.2.2.2 q hq]; exact h8 q hq⟩
  refine ⟨J', a1, a2, ?_⟩
  have hl1 : lgR (s cms) F I J' := ⟨hl.1, hl.2.1, by rw [a1 0 (by decide)]; exact hl.2.2.1, fun i hi => by rw [a1 16 (by decide)]; exact hl.2.2.2 i hi⟩
  have hrc := hw.rc hk
  have n2 := num_r (e := e + 1) (L' := L') (a := s k + 2) (k := 2) hl1 (by have := hrc.2.2; omega)
  rw [hrc.1] at n2
  have a3' : jv (e + 2) 234 37 [some (.ref 0), some (.int (nI (k + 1))), some (.int (nI (s 0))), some (.int (nI (0 + 1))), o4, o5, o6] [] (shR, J, L', pR) = jv (e + 2) 234 37 [some (.ref 0), some (.int (nI (k + 1))), some (.int (nI (s k))), some (.int (nI (k + 1))), o4, o5, o6] [] (shR, J', L', pR) := a3
  rw [hw.1] at a3'
  refine (show _ = _ from a3').trans ?_
  rw [B234_37, if_neg (nI_nlt (Nat.le_refl _) (by omega)), show nI (s k) + 2 = nI (s k + 2) from nI_add _ 2, show (2 : Int32) = nI 2 from rfl, jgo_some rfl n2]
  dsimp only [Option.toList_some, List.cons_append, List.nil_append]
  rw [B234_66]
  rfl
end UNDA
