/-! LOG: a record is played over a model, in both -/
section LOGE
variable {d e : Nat} {L L' : Nat → Nat → Int64} {pa pb pu pw : Option Nat}
/-- g' is g with the record's changes below the i-th -/
def pyR (a b : Nat → Int32) (i : Nat) (g g' : Nat → Int32) : Prop := ∀ q, q < 1189 → (a q ≠ b q ∧ chN a b q < i → g' q = b q) ∧ (¬ (a q ≠ b q ∧ chN a b q < i) → g' q = g q)
theorem pyR_zero (a b g : Nat → Int32) : pyR a b 0 g g := fun q _ => ⟨fun z => absurd z.2 (Nat.not_lt_zero _), fun _ => rfl⟩
theorem pyR_step {a b g g' : Nat → Int32} {i y : Nat} (h : pyR a b i g g') (y2 : a y ≠ b y) (y3 : chN a b y = i) : pyR a b (i + 1) g (va_up g' y (b y)) := by
  intro q hq
  have e : va_up g' y (b y) q = if q = y then b y else g' q := rfl
  rw [e]
  by_cases w : q = y
  · subst w
    rw [if_pos rfl]
    exact ⟨fun _ => rfl, fun z => absurd ⟨y2, by omega⟩ z⟩
  · rw [if_neg w]
    have iff_ : (a q ≠ b q ∧ chN a b q < i + 1) ↔ (a q ≠ b q ∧ chN a b q < i) := by
      constructor
      · rintro ⟨z1, z2⟩
        refine ⟨z1, ?_⟩
        by_cases v : chN a b q = i
        · exfalso
          rcases Nat.lt_trichotomy q y with u | u | u
          · have := chN_lt u z1; omega
          · exact w u
          · have := chN_lt u y2; omega
        · omega
      · rintro ⟨z1, z2⟩
        exact ⟨z1, by omega⟩
    rw [iff_]
    exact h q hq
theorem pyR_end {a b g g' : Nat → Int32} (h : pyR a b (chN a b 1189) g g') (hg : ∀ q, q < 1189 → g q = a q) : ∀ q, q < 1189 → g' q = b q := by
  intro q hq
  by_cases w : a q = b q
  · rw [(h q hq).2 (fun z => z.1 w), hg q hq, w]
  · exact (h q hq).1 ⟨w, chN_lt hq w⟩
theorem set1_c {I : Nat → Nat → Int32} {q : Nat} (hq : q < 1189) (v : Int32) : jv d 50 0 [some (.ref 1), some (.int (nI q)), some (.int v)] [] (shC, I, L, pX pa pb pu pw) = some (none, (shC, j_up I 2 q v, L, pX pa pb pu pw)) := by
  rw [B50_0_o1, if_neg (nI_pos (by omega)), if_pos (show nI q < 1189 from nI_lt (b := 1189) hq (by decide)), if_pos (j_in_nI hq (by decide)), nI_clamp (by omega), B50_18_o1]
theorem play1_c {I J : Nat → Nat → Int32} {F a b : Nat → Int32} {z s : Nat} (hl : lgR z F I J) (hw : rcW F s (chN a b 1189) z) (hp : recP F s a b 1189) : ∃ I', (∀ k, k ≠ 2 → I' k = I k) ∧ pyR a b (chN a b 1189) (I 2) (I' 2) ∧ jv (d + 4) 45 0 [some (.ref 23), some (.int (nI s)), some (.ref 1), none, none, none] [] (shC, I, L, pX pa pb pu pw) = some (none, (shC, I', L, pX pa pb pu pw)) := by
  have hn := chN_le a b 1189
  obtain ⟨⟨I', o5⟩, ⟨a1, a2⟩, a3⟩ := j_runP (α := (Nat → Nat → Int32) × Option Value) (fun i t => jv (d + 4) 45 9 [some (.ref 23), some (.int (nI s)), some (.ref 1), some (.int (nI (chN a b 1189))), some (.int (nI i)), t.2] [] (shC, t.1, L, pX pa pb pu pw)) (fun i t => (∀ k, k ≠ 2 → t.1 k = I k) ∧ pyR a b i (I 2) (t.1 2)) (chN a b 1189) (fun i hi t ht => by
    obtain ⟨I1, o5⟩ := t
    obtain ⟨b1, b2⟩ := ht
    dsimp only at b1 b2 ⊢
    have hl1 : lgR z F I1 J := ⟨hl.1, by rw [b1 23 (by decide)]; exact hl.2.1, hl.2.2.1, fun j hj => by rw [b1 24 (by decide)]; exact hl.2.2.2 j hj⟩
    obtain ⟨w1, w2, w3⟩ := hw
    obtain ⟨y, y1, y2, y3⟩ := chN_ex hi
    obtain ⟨p1, p2⟩ := hp y y1 y2
    rw [y3] at p1 p2
    have e1 : nI s + 4 + nI i * 6 = nI (s + 4 + 6 * i) := by rw [show nI s + 4 = nI (s + 4) from nI_add s 4, show nI i * 6 = nI (i * 6) from nI_mul i 6, nI_add, Nat.mul_comm i 6]
    have n2 := num_c (d := d + 2) (L := L) (pa := pa) (pb := pb) (pu := pu) (pw := pw) (a := s + 4 + 6 * i) (k := 2) hl1 (by omega)
    have n4 := num_c (d := d + 2) (L := L) (pa := pa) (pb := pb) (pu := pu) (pw := pw) (a := s + 4 + 6 * i + 2) (k := 4) hl1 (by omega)
    rw [p1] at n2
    rw [p2] at n4
    rw [B45_9_m1, if_pos (nI_lt hi (by omega)), e1, show (2 : Int32) = nI 2 from rfl, jgo_some rfl n2]
    dsimp only [Option.toList_some, List.cons_append, List.nil_append]
    rw [B45_34_m1, show nI (s + 4 + 6 * i) + 2 = nI (s + 4 + 6 * i + 2) from nI_add _ 2, show (4 : Int32) = nI 4 from rfl, jgo_some rfl n4]
    dsimp only [Option.toList_some, List.cons_append, List.nil_append]
    rw [B45_43_m1, jgo_some rfl (set1_c y1 _)]
    dsimp only [Option.toList_none, List.nil_append]
    rw [B45_46_m1, nI_1]
    refine ⟨(j_up I1 2 y (b y), some (.int (nI (s + 4 + 6 * i)))), ⟨fun k hk => by dsimp only; rw [j_up_cell _ hk, b1 k hk], ?_⟩, rfl⟩
    dsimp only
    rw [j_up_row]
    exact pyR_step b2 y2 y3) (I, none) ⟨fun _ _ => rfl, pyR_zero a b _⟩
  dsimp only at a1 a2 a3
  refine ⟨I', a1, a2, ?_⟩
  rw [B45_0_m1, jgo_some rfl (chs_c (d := d) hl hw)]
  dsimp only [Option.toList_some, List.cons_append, List.nil_append]
  rw [B45_5_m1]
  refine (show _ = _ from a3).trans ?_
  rw [B45_9_m1, if_neg (nI_nlt (Nat.le_refl _) (by omega))]
theorem set5_c {I : Nat → Nat → Int32} {q : Nat} (hq : q < 1189) (v : Int32) : jv d 50 0 [some (.ref 5), some (.int (nI q)), some (.int v)] [] (shC, I, L, pX pa pb pu pw) = some (none, (shC, j_up I 6 q v, L, pX pa pb pu pw)) := by
  rw [B50_0_o5, if_neg (nI_pos (by omega)), if_pos (show nI q < 1189 from nI_lt (b := 1189) hq (by decide)), if_pos (j_in_nI hq (by decide)), nI_clamp (by omega), B50_18_o5]
theorem play5_c {I J : Nat → Nat → Int32} {F a b : Nat → Int32} {z s : Nat} (hl : lgR z F I J) (hw : rcW F s (chN a b 1189) z) (hp : recP F s a b 1189) : ∃ I', (∀ k, k ≠ 6 → I' k = I k) ∧ pyR a b (chN a b 1189) (I 6) (I' 6) ∧ jv (d + 4) 45 0 [some (.ref 23), some (.int (nI s)), some (.ref 5), none, none, none] [] (shC, I, L, pX pa pb pu pw) = some (none, (shC, I', L, pX pa pb pu pw)) := by
  have hn := chN_le a b 1189
  obtain ⟨⟨I', o5⟩, ⟨a1, a2⟩, a3⟩ := j_runP (α := (Nat → Nat → Int32) × Option Value) (fun i t => jv (d + 4) 45 9 [some (.ref 23), some (.int (nI s)), some (.ref 5), some (.int (nI (chN a b 1189))), some (.int (nI i)), t.2] [] (shC, t.1, L, pX pa pb pu pw)) (fun i t => (∀ k, k ≠ 6 → t.1 k = I k) ∧ pyR a b i (I 6) (t.1 6)) (chN a b 1189) (fun i hi t ht => by
    obtain ⟨I1, o5⟩ := t
    obtain ⟨b1, b2⟩ := ht
    dsimp only at b1 b2 ⊢
    have hl1 : lgR z F I1 J := ⟨hl.1, by rw [b1 23 (by decide)]; exact hl.2.1, hl.2.2.1, fun j hj => by rw [b1 24 (by decide)]; exact hl.2.2.2 j hj⟩
    obtain ⟨w1, w2, w3⟩ := hw
    obtain ⟨y, y1, y2, y3⟩ := chN_ex hi
    obtain ⟨p1, p2⟩ := hp y y1 y2
    rw [y3] at p1 p2
    have e1 : nI s + 4 + nI i * 6 = nI (s + 4 + 6 * i) := by rw [show nI s + 4 = nI (s + 4) from nI_add s 4, show nI i * 6 = nI (i * 6) from nI_mul i 6, nI_add, Nat.mul_comm i 6]
    have n2 := num_c (d := d + 2) (L := L) (pa := pa) (pb := pb) (pu := pu) (pw := pw) (a := s + 4 + 6 * i) (k := 2) hl1 (by omega)
    have n4 := num_c (d := d + 2) (L := L) (pa := pa) (pb := pb) (pu := pu) (pw := pw) (a := s + 4 + 6 * i + 2) (k := 4) hl1 (by omega)
    rw [p1] at n2
    rw [p2] at n4
    rw [B45_9_m5, if_pos (nI_lt hi (by omega)), e1, show (2 : Int32) = nI 2 from rfl, jgo_some rfl n2]
    dsimp only [Option.toList_some, List.cons_append, List.nil_append]
    rw [B45_34_m5, show nI (s + 4 + 6 * i) + 2 = nI (s + 4 + 6 * i + 2) from nI_add _ 2, show (4 : Int32) = nI 4 from rfl, jgo_some rfl n4]
    dsimp only [Option.toList_some, List.cons_append, List.nil_append]
    rw [B45_43_m5, jgo_some rfl (set5_c y1 _)]
    dsimp only [Option.toList_none, List.nil_append]
    rw [B45_46_m5, nI_1]
    refine ⟨(j_up I1 6 y (b y), some (.int (nI (s + 4 + 6 * i)))), ⟨fun k hk => by dsimp only; rw [j_up_cell _ hk, b1 k hk], ?_⟩, rfl⟩
    dsimp only
    rw [j_up_row]
    exact pyR_step b2 y2 y3) (I, none) ⟨fun _ _ => rfl, pyR_zero a b _⟩
  dsimp only at a1 a2 a3
  refine ⟨I', a1, a2, ?_⟩
  rw [B45_0_m5, jgo_some rfl (chs_c (d := d) hl hw)]
  dsimp only [Option.toList_some, List.cons_append, List.nil_append]
  rw [B45_5_m5]
  refine (show _ = _ from a3).trans ?_
  rw [B45_9_m5, if_neg (nI_nlt (Nat.le_refl _) (by omega))]
theorem replay6_r {I J : Nat → Nat → Int32} {F a b : Nat → Int32} {z s : Nat} (hl : lgR z F I J) (hw : rcW F s (chN a b 1189) z) (hp : recP F s a b 1189) : ∃ J', (∀ k, k ≠ 6 → J' k = J k) ∧ pyR a b (chN a b 1189) (J 6) (J' 6) ∧ jv (e + 1) 235 0 [some (.ref 0), some (.int (nI s)), some (.ref 6), none, none] [] (shR, J, L', pR) = some (some (.int (nI (s + 5 + 6 * chN a b 1189))), (shR, J', L', pR)) := by
  have hn := chN_le a b 1189
  obtain ⟨w1, w2, w3⟩ := hw
  have hz := hl.1
  obtain ⟨J', ⟨a1, a2⟩, a3⟩ := j_runP (α := Nat → Nat → Int32) (fun i J1 => jv (e + 1) 235 12 [some (.ref 0), some (.int (nI s)), some (.ref 6), some (.int (nI (chN a b 1189))), some (.int (nI i))] [] (shR, J1, L', pR)) (fun i J1 => (∀ k, k ≠ 6 → J1 k = J k) ∧ pyR a b i (J 6) (J1 6)) (chN a b 1189) (fun i hi J1 ht => by
    obtain ⟨b1, b2⟩ := ht
    try dsimp only
    have hl1 : lgR z F I J1 := ⟨hl.1, hl.2.1, by rw [b1 0 (by decide)]; exact hl.2.2.1, fun j hj => by rw [b1 16 (by decide)]; exact hl.2.2.2 j hj⟩
    obtain ⟨y, y1, y2, y3⟩ := chN_ex hi
    obtain ⟨p1, p2⟩ := hp y y1 y2
    rw [y3] at p1 p2
    have e1 : nI s + 4 + 6 * nI i = nI (s + 4 + 6 * i) := by rw [show nI s + 4 = nI (s + 4) from nI_add s 4, show 6 * nI i = nI (6 * i) from nI_mul 6 i, nI_add]
    have e2 : nI s + 6 + 6 * nI i = nI (s + 4 + 6 * i + 2) := by
      rw [show nI s + 6 = nI (s + 6) from nI_add s 6, show 6 * nI i = nI (6 * i) from nI_mul 6 i, nI_add]
      congr 1
      omega
    have n2 := num_r (e := e) (L' := L') (a := s + 4 + 6 * i) (k := 2) hl1 (by omega)
    have n4 := num_r (e := e) (L' := L') (a := s + 4 + 6 * i + 2) (k := 4) hl1 (by omega)
    rw [p1] at n2
    rw [p2] at n4
    rw [B235_12_a6, if_pos (nI_lt hi (by omega)), e1, show (2 : Int32) = nI 2 from rfl, jgo_some rfl n2]
    dsimp only [Option.toList_some, List.cons_append, List.nil_append]
    rw [B235_33_a6, e2, show (4 : Int32) = nI 4 from rfl, jgo_some rfl n4]
    dsimp only [Option.toList_some, List.cons_append, List.nil_append]
    rw [B235_48_a6, if_pos (j_in_nI y1 (by decide)), nI_clamp (n := y) (by omega), nI_1]
    refine ⟨_, ⟨fun k hk => by rw [j_up_cell _ hk, b1 k hk], ?_⟩, rfl⟩
    rw [j_up_row]
    exact pyR_step b2 y2 y3) J ⟨fun _ _ => rfl, pyR_zero a b _⟩
  refine ⟨J', a1, a2, ?_⟩
  have n2 := num_r (e := e) (L' := L') (a := s + 2) (k := 2) hl (by omega)
  rw [w1] at n2
  rw [B235_0_a6, show nI s + 2 = nI (s + 2) from nI_add s 2, show (2 : Int32) = nI 2 from rfl, jgo_some rfl n2]
  dsimp only [Option.toList_some, List.cons_append, List.nil_append]
  rw [B235_8_a6]
  refine (show _ = _ from a3).trans ?_
  rw [B235_12_a6, if_neg (nI_nlt (Nat.le_refl _) (by omega)), show nI s + 5 = nI (s + 5) from nI_add s 5, show 6 * nI (chN a b 1189) = nI (6 * chN a b 1189) from nI_mul 6 _, nI_add]
theorem replay8_r {I J : Nat → Nat → Int32} {F a b : Nat → Int32} {z s : Nat} (hl : lgR z F I J) (hw : rcW F s (chN a b 1189) z) (hp : recP F s a b 1189) : ∃ J', (∀ k, k ≠ 8 → J' k = J k) ∧ pyR a b (chN a b 1189) (J 8) (J' 8) ∧ jv (e + 1) 235 0 [some (.ref 0), some (.int (nI s)), some (.ref 8), none, none] [] (shR, J, L', pR) = some (some (.int (nI (s + 5 + 6 * chN a b 1189))), (shR, J', L', pR)) := by
  have hn := chN_le a b 1189
  obtain ⟨w1, w2, w3⟩ := hw
  have hz := hl.1
  obtain ⟨J', ⟨a1, a2⟩, a3⟩ := j_runP (α := Nat → Nat → Int32) (fun i J1 => jv (e + 1) 235 12 [some (.ref 0), some (.int (nI s)), some (.ref 8), some (.int (nI (chN a b 1189))), some (.int (nI i))] [] (shR, J1, L', pR)) (fun i J1 => (∀ k, k ≠ 8 → J1 k = J k) ∧ pyR a b i (J 8) (J1 8)) (chN a b 1189) (fun i hi J1 ht => by
    obtain ⟨b1, b2⟩ := ht
    try dsimp only
    have hl1 : lgR z F I J1 := ⟨hl.1, hl.2.1, by rw [b1 0 (by decide)]; exact hl.2.2.1, fun j hj => by rw [b1 16 (by decide)]; exact hl.2.2.2 j hj⟩
    obtain ⟨y, y1, y2, y3⟩ := chN_ex hi
    obtain ⟨p1, p2⟩ := hp y y1 y2
    rw [y3] at p1 p2
    have e1 : nI s + 4 + 6 * nI i = nI (s + 4 + 6 * i) := by rw [show nI s + 4 = nI (s + 4) from nI_add s 4, show 6 * nI i = nI (6 * i) from nI_mul 6 i, nI_add]
    have e2 : nI s + 6 + 6 * nI i = nI (s + 4 + 6 * i + 2) := by
      rw [show nI s + 6 = nI (s + 6) from nI_add s 6, show 6 * nI i = nI (6 * i) from nI_mul 6 i, nI_add]
      congr 1
      omega
    have n2 := num_r (e := e) (L' := L') (a := s + 4 + 6 * i) (k := 2) hl1 (by omega)
    have n4 := num_r (e := e) (L' := L') (a := s + 4 + 6 * i + 2) (k := 4) hl1 (by omega)
    rw [p1] at n2
    rw [p2] at n4
    rw [B235_12_a8, if_pos (nI_lt hi (by omega)), e1, show (2 : Int32) = nI 2 from rfl, jgo_some rfl n2]
    dsimp only [Option.toList_some, List.cons_append, List.nil_append]
    rw [B235_33_a8, e2, show (4 : Int32) = nI 4 from rfl, jgo_some rfl n4]
    dsimp only [Option.toList_some, List.cons_append, List.nil_append]
    rw [B235_48_a8, if_pos (j_in_nI y1 (by decide)), nI_clamp (n := y) (by omega), nI_1]
    refine ⟨_, ⟨fun k hk => by rw [j_up_cell _ hk, b1 k hk], ?_⟩, rfl⟩
    rw [j_up_row]
    exact pyR_step b2 y2 y3) J ⟨fun _ _ => rfl, pyR_zero a b _⟩
  refine ⟨J', a1, a2, ?_⟩
  have n2 := num_r (e := e) (L' := L') (a := s + 2) (k := 2) hl (by omega)
  rw [w1] at n2
  rw [B235_0_a8, show nI s + 2 = nI (s + 2) from nI_add s 2, show (2 : Int32) = nI 2 from rfl, jgo_some rfl n2]
  dsimp only [Option.toList_some, List.cons_append, List.nil_append]
  rw [B235_8_a8]
  refine (show _ = _ from a3).trans ?_
  rw [B235_12_a8, if_neg (nI_nlt (Nat.le_refl _) (by omega)), show nI s + 5 = nI (s + 5) from nI_add s 5, show 6 * nI (chN a b 1189) = nI (6 * chN a b 1189) from nI_mul 6 _, nI_add]
end LOGE
