/-! LOG: a record is read; the rows that it changed, class -/
section LOGD
variable {d e : Nat} {L L' : Nat → Nat → Int64} {pa pb pu pw : Option Nat}
theorem fl_pos : ∀ t, t < 13 → 0 < fieldsN.getD t 0 ∧ fpN.getD t 0 < 1189 := by decide +kernel
theorem rowOf_c {I : Nat → Nat → Int32} {x : Nat} (hx : x < 1189) : jv d 192 0 [some (.int (nI x)), none] [] (shC, I, L, pX pa pb pu pw) = some (some (.int (nI (rowN.getD x 0))), (shC, I, L, pX pa pb pu pw)) := by
  have key : ∀ t, t ≤ 12 → x < fpN.getD (t + 1) 0 → jv d 192 3 [some (.int (nI x)), some (.int (nI t))] [] (shC, I, L, pX pa pb pu pw) = some (some (.int (nI (rowN.getD x 0))), (shC, I, L, pX pa pb pu pw)) := by
    intro t
    induction t with
    | zero =>
      intro h0 h1
      have j : j_in (nI 0) 13 = true := by decide
      have h3 : x < rowsN.getD 0 0 * fieldsN.getD 0 0 := h1
      have h2 := tab_row 0 (by decide) x h3
      rw [show fpN.getD 0 0 + x = x from Nat.zero_add x] at h2
      rw [B192_3, if_neg (by decide), if_pos j, nI_clamp (n := 0) (by decide), tz3 0 (by decide), if_neg (show ¬ nI x < nI (fpN.getD 0 0) from nI_nlt (Nat.zero_le _) (by omega)), if_pos (show nI x < 1189 from nI_lt (b := 1189) hx (by decide)), if_pos j, if_pos j, if_pos j, tz1 0 (by decide), if_neg (by decide), tz2 0 (by decide), show nI x - nI (fpN.getD 0 0) = nI (x - 0) from nI_sub (Nat.zero_le _), nI_div (by omega) (by decide), nI_add, h2, Nat.sub_zero]
    | succ t ih =>
      intro h0 h1
      have ht : t + 1 < 13 := by omega
      have j : j_in (nI (t + 1)) 13 = true := j_in_nI ht (by decide)
      obtain ⟨f1, f2⟩ := fl_pos (t + 1) ht
      obtain ⟨p1, p2, p3, p4⟩ := tab_fp (t + 1) ht
      rw [B192_3, if_neg (nI_pos (by omega)), if_pos j, nI_clamp (n := t + 1) (by omega), tz3 (t + 1) ht]
      by_cases q : x < fpN.getD (t + 1) 0
      · rw [if_pos (nI_lt q (by omega)), B192_43, nI_dec (by omega)]
        exact ih (by omega) q
      · have h2 := tab_row (t + 1) ht (x - fpN.getD (t + 1) 0) (by omega)
        rw [show fpN.getD (t + 1) 0 + (x - fpN.getD (t + 1) 0) = x by omega] at h2
        rw [if_neg (nI_nlt (by omega) (by omega)), if_pos (show nI x < 1189 from nI_lt (b := 1189) hx (by decide)), if_pos j, if_pos j, if_pos j, tz1 (t + 1) ht, if_neg (nI_ne0 f1 (by omega)), tz2 (t + 1) ht, nI_sub (by omega), nI_div (by omega) (by omega), nI_add, h2]
  rw [B192_0]
  exact key 12 (by decide) hx
/-- a whole record from s on, with n changes -/
def rcW (F : Nat → Int32) (s n z : Nat) : Prop := nmV F (s + 2) 2 = nI n ∧ n ≤ 1189 ∧ s + 5 + 6 * n ≤ z
theorem end_c {I J : Nat → Nat → Int32} {F : Nat → Int32} {z s n : Nat} (hl : lgR z F I J) (hw : rcW F s n z) : jv (d + 2) 44 0 [some (.ref 23), some (.int (nI s)), none] [] (shC, I, L, pX pa pb pu pw) = some (some (.int (nI (s + 5 + 6 * n))), (shC, I, L, pX pa pb pu pw)) := by
  obtain ⟨w1, w2, w3⟩ := hw
  have hz := hl.1
  have e1 : nI (s + 4) + nI n * 6 + 1 = nI (s + 5 + 6 * n) := by
    rw [show nI n * 6 = nI (n * 6) from nI_mul _ 6, nI_add, nI_1]
    congr 1
    omega
  rw [B44_0, if_neg (nI_pos (by omega)), hl.2.1, show nI s + 4 = nI (s + 4) from nI_add s 4, if_neg (nI_nlt (by omega) (by omega)), show nI s + 2 = nI (s + 2) from nI_add s 2, show (2 : Int32) = nI 2 from rfl, jgo_some rfl (num_c hl (by omega)), w1]
  dsimp only [Option.toList_some, List.cons_append, List.nil_append]
  rw [B44_27, hl.2.1, e1, if_neg (nI_nlt (by omega) (by omega)), B44_47]
theorem chs_c {I J : Nat → Nat → Int32} {F : Nat → Int32} {z s n : Nat} (hl : lgR z F I J) (hw : rcW F s n z) : jv (d + 3) 42 0 [some (.ref 23), some (.int (nI s))] [] (shC, I, L, pX pa pb pu pw) = some (some (.int (nI n)), (shC, I, L, pX pa pb pu pw)) := by
  have hz := hl.1
  have hw' := hw
  obtain ⟨w1, w2, w3⟩ := hw
  rw [B42_0, jgo_some rfl (end_c (d := d) hl hw')]
  dsimp only [Option.toList_some, List.cons_append, List.nil_append]
  rw [B42_5, if_neg (nI_pos (by omega)), show nI s + 2 = nI (s + 2) from nI_add s 2, show (2 : Int32) = nI 2 from rfl, jgo_some rfl (num_c (d := d + 1) hl (by omega)), w1]
  dsimp only [Option.toList_some, List.cons_append, List.nil_append]
  rw [B42_20]
theorem plc_c {I J : Nat → Nat → Int32} {F : Nat → Int32} {z s n i : Nat} (hl : lgR z F I J) (hw : rcW F s n z) (hi : i < n) : jv (d + 2) 43 0 [some (.ref 23), some (.int (nI s)), some (.int (nI i))] [] (shC, I, L, pX pa pb pu pw) = some (some (.int (nmV F (s + 4 + 6 * i) 2)), (shC, I, L, pX pa pb pu pw)) := by
  obtain ⟨w1, w2, w3⟩ := hw
  rw [B43_0, show nI s + 4 = nI (s + 4) from nI_add s 4, show nI i * 6 = nI (i * 6) from nI_mul i 6, nI_add, Nat.mul_comm i 6, show (2 : Int32) = nI 2 from rfl, jgo_some rfl (num_c hl (by omega))]
  dsimp only [Option.toList_some, List.cons_append, List.nil_append]
  rw [B43_13]
/-- the i-th change has its place -/
theorem chN_ex {a b : Nat → Int32} : ∀ {x i : Nat}, i < chN a b x → ∃ y, y < x ∧ a y ≠ b y ∧ chN a b y = i := by
  intro x
  induction x with
  | zero => intro i h; exact absurd h (Nat.not_lt_zero _)
  | succ x ih =>
    intro i h
    by_cases q : a x = b x
    · rw [chN_no (fun z => z q)] at h
      obtain ⟨y, h1, h2, h3⟩ := ih h
      exact ⟨y, by omega, h2, h3⟩
    · rw [chN_yes q] at h
      by_cases w : i = chN a b x
      · exact ⟨x, by omega, q, w.symm⟩
      · obtain ⟨y, h1, h2, h3⟩ := ih (by omega : i < chN a b x)
        exact ⟨y, by omega, h2, h3⟩
theorem chN_lt {a b : Nat → Int32} {x y : Nat} (h : x < y) (hn : a x ≠ b x) : chN a b x < chN a b y := by
  have := chN_yes hn
  have := chN_mono (a := a) (b := b) (show x + 1 ≤ y from h)
  omega
/-- markChanges() -/
theorem mark_c {I J : Nat → Nat → Int32} {F a b : Nat → Int32} {z s c : Nat} (hl : lgR z F I J) (hw : rcW F s (chN a b 1189) z) (hp : recP F s a b 1189) (h8 : I 0 8 = nI c) : ∃ I', (∀ k, k ≠ 25 → I' k = I k) ∧ mkR a b 1189 c (I 25) (I' 25) ∧ jv (d + 4) 186 0 [some (.ref 0), some (.int (nI s)), none, none] [] (shC, I, L, pX pa pb pu pw) = some (none, (shC, I', L, pX pa pb pu pw)) := by
  have hn := chN_le a b 1189
  obtain ⟨I', ⟨a1, a2⟩, a3⟩ := j_runP (α := Nat → Nat → Int32) (fun i I1 => jv (d + 4) 186 11 [some (.ref 0), some (.int (nI s)), some (.int (nI (chN a b 1189))), some (.int (nI i))] [] (shC, I1, L, pX pa pb pu pw)) (fun i I1 => (∀ k, k ≠ 25 → I1 k = I k) ∧ ∀ r, r < 148 → ((∃ y, y < 1189 ∧ a y ≠ b y ∧ chN a b y < i ∧ rowN.getD y 0 = r) → I1 25 r = nI c) ∧ (¬ (∃ y, y < 1189 ∧ a y ≠ b y ∧ chN a b y < i ∧ rowN.getD y 0 = r) → I1 25 r = I 25 r)) (chN a b 1189) (fun i hi I1 hI => by
    obtain ⟨b1, b2⟩ := hI
    try dsimp only
    have hl1 : lgR z F I1 J := ⟨hl.1, by rw [b1 23 (by decide)]; exact hl.2.1, hl.2.2.1, fun j hj => by rw [b1 24 (by decide)]; exact hl.2.2.2 j hj⟩
    obtain ⟨y, y1, y2, y3⟩ := chN_ex hi
    have rl := rowN_lt y y1
    have pl := (hp y y1 y2).1
    rw [y3] at pl
    rw [B186_11, if_pos (nI_lt hi (by omega)), jgo_some rfl (plc_c (d := d + 1) hl1 hw hi), pl]
    dsimp only [Option.toList_some, List.cons_append, List.nil_append]
    rw [B186_29, jgo_some rfl (rowOf_c y1)]
    dsimp only [Option.toList_some, List.cons_append, List.nil_append]
    rw [B186_32, if_pos (j_in_nI rl (by decide)), nI_clamp (n := rowN.getD y 0) (by omega), b1 0 (by decide), h8, nI_1]
    refine ⟨_, ⟨fun k hk => by rw [j_up_cell _ hk, b1 k hk], fun r hr => ?_⟩, rfl⟩
    rw [j_up_own]
    have iff_ : (∃ y, y < 1189 ∧ a y ≠ b y ∧ chN a b y < i + 1 ∧ rowN.getD y 0 = r) ↔ (∃ y, y < 1189 ∧ a y ≠ b y ∧ chN a b y < i ∧ rowN.getD y 0 = r) ∨ r = rowN.getD y 0 := by
      constructor
      · rintro ⟨x, x1, x2, x3, x4⟩
        by_cases q : chN a b x < i
        · exact Or.inl ⟨x, x1, x2, q, x4⟩
        · refine Or.inr ?_
          have e1 : x = y := by
            rcases Nat.lt_trichotomy x y with w | w | w
            · have := chN_lt w x2; omega
            · exact w
            · have := chN_lt w y2; omega
          rw [← x4, e1]
      · rintro (⟨x, x1, x2, x3, x4⟩ | w)
        · exact ⟨x, x1, x2, by omega, x4⟩
        · exact ⟨y, y1, y2, by omega, w.symm⟩
    rw [iff_]
    by_cases q : r = rowN.getD y 0
    · rw [if_pos q]
      exact ⟨fun _ => rfl, fun w => absurd (Or.inr q) w⟩
    · rw [if_neg q]
      exact ⟨fun w => (b2 r hr).1 (w.resolve_right q), fun w => (b2 r hr).2 (fun v => w (Or.inl v))⟩) I ⟨fun _ _ => rfl, fun r hr => ⟨fun ⟨y, _, _, h3, _⟩ => absurd h3 (Nat.not_lt_zero _), fun _ => rfl⟩⟩
  refine ⟨I', a1, fun r hr => ?_, ?_⟩
  · have iff_ : (∃ y, y < 1189 ∧ a y ≠ b y ∧ chN a b y < chN a b 1189 ∧ rowN.getD y 0 = r) ↔ chR a b 1189 r := by
      constructor
      · rintro ⟨y, y1, y2, y3, y4⟩
        exact ⟨y, y1, y2, y4⟩
      · rintro ⟨y, y1, y2, y4⟩
        exact ⟨y, y1, y2, chN_lt y1 y2, y4⟩
    rw [← iff_]
    exact a2 r hr
  · rw [B186_0, jgo_some rfl (chs_c (d := d) hl hw)]
    dsimp only [Option.toList_some, List.cons_append, List.nil_append]
    rw [B186_8]
    refine (show _ = _ from a3).trans ?_
    rw [B186_11, if_neg (nI_nlt (Nat.le_refl _) (by omega))]
end LOGD
