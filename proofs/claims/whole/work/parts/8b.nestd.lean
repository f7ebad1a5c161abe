/-! PLATES: a plate's extent and rows of bits, in the class -/
section NESTD
variable {d e : Nat} {I : Nat → Nat → Int32} {pa pb pu pw : Option Nat} {W H : Nat} {v : Nat → Int32}
theorem sp_row {L : Nat → Nat → Int64} (G : plIn (plV v) W H) (hz : ∀ j, j < 12 → (v j = 0 ↔ ∀ i, i < 24 → ¬ ibit i (v j))) {k j : Nat} (hk : k < 8) (hv : ∀ j, j < 12 → I 2 (600 + k * 14 + j) = v j) (hj : j < 12) (m : Nat × Nat) (hm : mxP (plV v) W H j 0 m) (hm24 : m.1 < 24) (o6 o7 : Option Value) : ∃ m' : Nat × Nat, mxP (plV v) W H (j + 1) 0 m' ∧ m'.1 < 24 ∧ ∃ z6 z7 : Option Value, jv (d + 1) 115 8 [some (.ref 83), some (.ref 1), some (.int (nI k)), some (.int (nI m.1)), some (.int (nI m.2)), some (.int (nI j)), o6, o7] [] (shC, I, L, pX pa pb pu pw) = jv (d + 1) 115 8 [some (.ref 83), some (.ref 1), some (.int (nI k)), some (.int (nI m'.1)), some (.int (nI m'.2)), some (.int (nI (j + 1))), z6, z7] [] (shC, I, L, pX pa pb pu pw) := by
  obtain ⟨g1, g2, g3, -⟩ := id G
  obtain ⟨a1, a2, a3⟩ := hm
  generalize hh' : (if v j = 0 then m.2 else j) = h'
  have st : jv (d + 1) 115 8 [some (.ref 83), some (.ref 1), some (.int (nI k)), some (.int (nI m.1)), some (.int (nI m.2)), some (.int (nI j)), o6, o7] [] (shC, I, L, pX pa pb pu pw) = jv (d + 1) 115 43 [some (.ref 83), some (.ref 1), some (.int (nI k)), some (.int (nI m.1)), some (.int (nI h')), some (.int (nI j)), some (.int (v j)), some (.int (nI m.1))] [] (shC, I, L, pX pa pb pu pw) := by
    rw [B115_8, if_pos (show nI j < 12 from nI_lt (b := 12) hj (by decide)), g_plt_c hk (by omega)]
    dsimp only [Option.toList_some, List.cons_append, List.nil_append]
    rw [hv j hj, B115_24]
    by_cases q : v j = 0
    · rw [if_pos q] at hh' ⊢
      rw [B115_38, hh']
    · rw [if_neg q] at hh' ⊢
      rw [B115_38, hh']
  obtain ⟨w', ⟨c1, c2, c3⟩, c4⟩ := j_runP (fun n (w' : Nat) => jv (d + 1) 115 43 [some (.ref 83), some (.ref 1), some (.int (nI k)), some (.int (nI w')), some (.int (nI h')), some (.int (nI j)), some (.int (v j)), some (.int (nI (m.1 + n)))] [] (shC, I, L, pX pa pb pu pw)) (fun n w' => w' ≤ W ∧ m.1 ≤ w' ∧ ∀ i', i' < m.1 + n → ibit i' (v j) → i' ≤ w') (24 - m.1) (fun n hn w' hw => by
    obtain ⟨d1, d2, d3⟩ := hw
    by_cases hb : ibit (m.1 + n) (v j)
    · have := (g3 (m.1 + n) j ⟨by omega, hj, hb⟩).1
      refine ⟨m.1 + n, ⟨this, by omega, fun i' e1 e2 => by omega⟩, ?_⟩
      rw [B115_43, if_pos (show nI (m.1 + n) < 24 from nI_lt (b := 24) (by omega) (by decide)), if_neg (fun z => ((ibit_no (by omega)).mp z) hb), B115_66, nI_1]
      rfl
    · refine ⟨w', ⟨d1, d2, fun i' e1 e2 => ?_⟩, ?_⟩
      · by_cases q : i' = m.1 + n
        · rw [q] at e2; exact absurd e2 hb
        · exact d3 i' (by omega) e2
      · rw [B115_43, if_pos (show nI (m.1 + n) < 24 from nI_lt (b := 24) (by omega) (by decide)), if_pos ((ibit_no (by omega)).mpr hb), B115_66, nI_1]
        rfl) m.1 ⟨a1, Nat.le_refl _, fun i' e1 _ => by omega⟩
  have hh2 : h' ≤ H ∧ m.2 ≤ h' ∨ (h' ≤ H ∧ h' = j) := by
    by_cases q : v j = 0
    · rw [if_pos q] at hh'
      left
      omega
    · rw [if_neg q] at hh'
      right
      have : ∃ i, i < 24 ∧ ibit i (v j) := by
        apply Classical.byContradiction
        intro z
        exact q ((hz j hj).mpr (fun i hi hb => z ⟨i, hi, hb⟩))
      obtain ⟨i, hi, hb⟩ := this
      have := (g3 i j ⟨hi, hj, hb⟩).2
      omega
  have w24 : w' < 24 := by omega
  refine ⟨(w', h'), ⟨c1, by dsimp only; omega, fun i' j' e1 e2 => ?_⟩, w24, some (.int (v j)), some (.int (nI (m.1 + (24 - m.1)))), st.trans (c4.trans ?_)⟩
  · have e3 := e1.1
    unfold doneN at e2
    by_cases q : j' = j
    · subst q
      have f1 := c3 i' (by omega) e1.2.2
      have f2 : ¬ v j' = 0 := fun z => (hz j' hj).mp z i' e3 e1.2.2
      rw [if_neg f2] at hh'
      dsimp only
      omega
    · have f1 := a3 i' j' e1 (by unfold doneN; omega)
      dsimp only
      have f3 : m.2 ≤ h' ∨ h' = j := by omega
      omega
  · rw [B115_43, if_neg (show ¬ nI (m.1 + (24 - m.1)) < 24 from nI_nlt (b := 24) (by omega) (by omega)), nI_1 j]
theorem sp_max {L : Nat → Nat → Int64} (G : plIn (plV v) W H) (hz : ∀ j, j < 12 → (v j = 0 ↔ ∀ i, i < 24 → ¬ ibit i (v j))) {k : Nat} (hk : k < 8) (hv : ∀ j, j < 12 → I 2 (600 + k * 14 + j) = v j) : ∃ z6 z7 : Option Value, jv (d + 1) 115 0 [some (.ref 83), some (.ref 1), some (.int (nI k)), none, none, none, none, none] [] (shC, I, L, pX pa pb pu pw) = jv (d + 1) 115 8 [some (.ref 83), some (.ref 1), some (.int (nI k)), some (.int (nI W)), some (.int (nI H)), some (.int (nI 12)), z6, z7] [] (shC, I, L, pX pa pb pu pw) := by
  obtain ⟨⟨m, z6, z7⟩, ⟨⟨h1, h2, h3⟩, -⟩, h4⟩ := j_runP (fun j (q : (Nat × Nat) × Option Value × Option Value) => jv (d + 1) 115 8 [some (.ref 83), some (.ref 1), some (.int (nI k)), some (.int (nI q.1.1)), some (.int (nI q.1.2)), some (.int (nI j)), q.2.1, q.2.2] [] (shC, I, L, pX pa pb pu pw)) (fun j q => mxP (plV v) W H j 0 q.1 ∧ q.1.1 < 24) 12 (fun j hj q hq => by
    obtain ⟨m', b1, b2, z6, z7, b3⟩ := sp_row (d := d) (L := L) (pa := pa) (pb := pb) (pu := pu) (pw := pw) G hz hk hv hj q.1 hq.1 hq.2 q.2.1 q.2.2
    exact ⟨(m', z6, z7), ⟨b1, b2⟩, b3⟩) ((0, 0), none, none) ⟨⟨Nat.zero_le _, Nat.zero_le _, fun i' j' c1 c2 => by unfold doneN at c2; omega⟩, by decide⟩
  obtain ⟨-, -, -, ⟨j1, g1⟩, ⟨i1, g2⟩, -⟩ := id G
  have w1 : m.1 = W := by
    have := (h3 W j1 g1 (Or.inl g1.2.1)).1
    dsimp only at h1 this
    omega
  have w2 : m.2 = H := by
    have := (h3 i1 H g2 (Or.inl g2.2.1)).2
    dsimp only at h2 this
    omega
  refine ⟨z6, z7, ?_⟩
  rw [B115_0]
  refine h4.trans ?_
  dsimp only
  rw [w1, w2]
end NESTD
