/-! RULES: a name that is told, in both -/
section PARJ
variable {I J : Nat → Nat → Int32} {L L' : Nat → Nat → Int64}
variable {g T : Nat} {K P : Nat → Nat} {W : Nat → List Nat} {U : Nat → Nat} {Q : Nat} {nm : Nat → List Nat} {kd nb : Nat → Nat} {nl nt nu s : Nat} {cw : Nat → List Nat} {rho : Nat → Nat} {now nc nr : Nat} {pa pb pu pw : Option Nat}
def hadW (Q : Nat) (nm : Nat → List Nat) (s : Nat) (cw : Nat → List Nat) (w : List Nat) : Prop := (∃ i, i < 10 ∧ kwA.getD i [] = w) ∨ (∃ i, i < 13 ∧ kwB.getD i [] = w) ∨ (∃ i, i < 11 ∧ kwC.getD i [] = w) ∨ (∃ q, q < Q ∧ nm q = w) ∨ ∃ i, i < s ∧ cw i = w
theorem fndI.neg {P : Nat → Prop} {n : Nat} {r : Int32} (hn : n < 2 ^ 31) (h : fndI P n r) : r < 0 ↔ ∀ j, j < n → ¬ P j := by
  rcases h with ⟨i, i1, i2, i3, i4⟩ | ⟨i1, i2⟩
  · refine ⟨fun z => ?_, fun z => absurd i2 (z i i1)⟩
    rw [i4] at z
    exact absurd z (nI_pos (by omega))
  · refine ⟨fun _ => i1, fun _ => ?_⟩
    rw [i2]; decide
theorem fndI.map {P P' : Nat → Prop} {n : Nat} {r : Int32} (h : fndI P n r) (e : ∀ i, i < n → (P i ↔ P' i)) : fndI P' n r := by
  rcases h with ⟨i, i1, i2, i3, i4⟩ | ⟨i1, i2⟩
  · exact Or.inl ⟨i, i1, (e i i1).mp i2, fun j hj z => i3 j hj ((e j (by omega)).mpr z), i4⟩
  · exact Or.inr ⟨fun j hj z => i1 j hj ((e j hj).mpr z), i2⟩
theorem fnd_36 {d : Nat} (hS : kwS L) {w : List Nat} (hw : okW w) (o4 : Option Value) : ∃ r, jv d 20 0 [some (.ref 36), some (.int 13), some (.long (lgN (nC w))), none, o4] [] (shC, I, L, pX pa pb pu pw) = some (some (.int r), (shC, I, L, pX pa pb pu pw)) ∧ fndI (fun i => kwB.getD i [] = w) 13 r := by
  obtain ⟨r, r1, r2⟩ := find_36 (d := d) (I := I) (L := L) (pa := pa) (pb := pb) (pu := pu) (pw := pw) (n := 13) (by decide) (lgN (nC w)) o4
  refine ⟨r, r1, r2.map fun i hi => ?_⟩
  rw [hS.2.1 i hi]; exact wC_inj (kwB_ok i hi) hw
theorem fnd_37 {d : Nat} (hS : kwS L) {w : List Nat} (hw : okW w) (o4 : Option Value) : ∃ r, jv d 20 0 [some (.ref 37), some (.int 11), some (.long (lgN (nC w))), none, o4] [] (shC, I, L, pX pa pb pu pw) = some (some (.int r), (shC, I, L, pX pa pb pu pw)) ∧ fndI (fun i => kwC.getD i [] = w) 11 r := by
  obtain ⟨r, r1, r2⟩ := find_37 (d := d) (I := I) (L := L) (pa := pa) (pb := pb) (pu := pu) (pw := pw) (n := 11) (by decide) (lgN (nC w)) o4
  refine ⟨r, r1, r2.map fun i hi => ?_⟩
  rw [hS.2.2 i hi]; exact wC_inj (kwC_ok i hi) hw
theorem fnd_31 {d : Nat} (hN : nmS Q nm kd nb nl nt nu I L J L') {w : List Nat} (hw : okW w) (o4 : Option Value) : ∃ r, jv d 20 0 [some (.ref 31), some (.int (I 27 14)), some (.long (lgN (nC w))), none, o4] [] (shC, I, L, pX pa pb pu pw) = some (some (.int r), (shC, I, L, pX pa pb pu pw)) ∧ fndI (fun q => nm q = w) Q r := by
  obtain ⟨r, r1, r2⟩ := find_31 (d := d) (I := I) (L := L) (pa := pa) (pb := pb) (pu := pu) (pw := pw) hN.1 (lgN (nC w)) o4
  refine ⟨r, by rw [hN.2.1]; exact r1, r2.map fun i hi => ?_⟩
  have := hN.2.2.2.2.2.2.2.2.1 i hi
  rw [this.2.1]; exact wC_inj this.1 hw
theorem fnd_34 {d : Nat} (hN : cnS s cw rho I L J L') {w : List Nat} (hw : okW w) (o4 : Option Value) : ∃ r, jv d 20 0 [some (.ref 34), some (.int (I 27 16)), some (.long (lgN (nC w))), none, o4] [] (shC, I, L, pX pa pb pu pw) = some (some (.int r), (shC, I, L, pX pa pb pu pw)) ∧ fndI (fun i => cw i = w) s r := by
  obtain ⟨r, r1, r2⟩ := find_34 (d := d) (I := I) (L := L) (pa := pa) (pb := pb) (pu := pu) (pw := pw) hN.1 (lgN (nC w)) o4
  refine ⟨r, by rw [hN.2.1]; exact r1, r2.map fun i hi => ?_⟩
  have := hN.2.2.2.1 i hi
  rw [this.2.1]; exact wC_inj this.1 hw
theorem name_c (d : Nat) (ok : pOk g T K P W U Q nm kd nb nl nt nu s cw rho now nc nr I L J L') (o1 o2 : Option Value) :
    (K now ≠ 97 → jv (d + 2) 19 0 [some (.ref 27), o1, o2] [] (shC, I, L, pX pa pb pu pw) = some (some (.long 0), (shC, flC I 2 (P now), L, pX pa pb pu pw))) ∧
    (K now = 97 → hadW Q nm s cw (W now) → jv (d + 2) 19 0 [some (.ref 27), o1, o2] [] (shC, I, L, pX pa pb pu pw) = some (some (.long 0), (shC, flC I 4 (P now), L, pX pa pb pu pw))) ∧
    (K now = 97 → ¬ hadW Q nm s cw (W now) → jv (d + 2) 19 0 [some (.ref 27), o1, o2] [] (shC, I, L, pX pa pb pu pw) = some (some (.long (lgN (nC (W now)))), (shC, j_up I 27 7 (nI (now + 1)), L, pX pa pb pu pw))) := by
  obtain ⟨tk, kw, hN, hC, a5, a6, a7, a8, a9, a10, a11, a12, a13⟩ := ok
  have hT := tk.1
  have n97 := now_c (d := d + 1) (pa := pa) (pb := pb) (pu := pu) (pw := pw) tk a5 a8 a10 (k := 97) (by decide)
  have st : jv (d + 2) 19 0 [some (.ref 27), o1, o2] [] (shC, I, L, pX pa pb pu pw) = jv (d + 2) 19 6 [some (.ref 27), o1, o2] [.int (if K now = 97 then 1 else 0)] (shC, I, L, pX pa pb pu pw) := by
    rw [B19_0, show (97 : Int32) = nI 97 from rfl, jgo_some (d := d + 1) rfl n97]
    rfl
  refine ⟨fun q => ?_, ?_⟩
  · rw [st, if_neg q, B19_6, if_pos rfl, a10, show (2 : Int32) = nI 2 from rfl, jgo_some (d := d + 1) rfl (fail_c tk a5 a8 2)]
    dsimp only [Option.toList_some, Option.toList_none, List.cons_append, List.nil_append]
    rw [B19_18]
  have fin : K now = 97 → (hadW Q nm s cw (W now) → jv (d + 2) 19 0 [some (.ref 27), o1, o2] [] (shC, I, L, pX pa pb pu pw) = jv (d + 2) 19 94 [some (.ref 27), some (.long (lgN (nC (W now)))), none] [] (shC, I, L, pX pa pb pu pw)) ∧ (¬ hadW Q nm s cw (W now) → jv (d + 2) 19 0 [some (.ref 27), o1, o2] [] (shC, I, L, pX pa pb pu pw) = some (some (.long (lgN (nC (W now)))), (shC, j_up I 27 7 (nI (now + 1)), L, pX pa pb pu pw))) := by
    intro q
    have lt := tk.lt a5 q (by decide)
    obtain ⟨w1, w2, w3⟩ := tk.2.2.2.2.2.1 now lt q
    obtain ⟨rA, eA, fA⟩ := key_c (d := d) (pa := pa) (pb := pb) (pu := pu) (pw := pw) kw tk a5 a10 q
    obtain ⟨rB, eB, fB⟩ := fnd_36 (d := d + 1) (I := I) (pa := pa) (pb := pb) (pu := pu) (pw := pw) kw w1 none
    obtain ⟨rC, eC, fC⟩ := fnd_37 (d := d + 1) (I := I) (pa := pa) (pb := pb) (pu := pu) (pw := pw) kw w1 none
    obtain ⟨rN, eN, fN⟩ := fnd_31 (d := d + 1) (pa := pa) (pb := pb) (pu := pu) (pw := pw) hN w1 none
    obtain ⟨rS, eS, fS⟩ := fnd_34 (d := d + 1) (pa := pa) (pb := pb) (pu := pu) (pw := pw) hC w1 none
    have gA := fA.neg (by decide)
    have gB := fB.neg (by decide)
    have gC := fC.neg (by decide)
    have gN := fN.neg (by have := hN.1; omega)
    have gS := fS.neg (by have := hC.1; omega)
    have s1 : jv (d + 2) 19 0 [some (.ref 27), o1, o2] [] (shC, I, L, pX pa pb pu pw) = jv (d + 2) 19 35 [some (.ref 27), some (.long (lgN (nC (W now)))), none] [.int rA] (shC, I, L, pX pa pb pu pw) := by
      rw [st, if_pos q, B19_6, if_neg (by decide), a10, if_pos (j_in_nI (by omega) (by decide)), nI_clamp (by omega), w2, jgo_some (d := d + 1) rfl eA]
      rfl
    by_cases zA : rA < 0
    case neg =>
      have hw : hadW Q nm s cw (W now) := Classical.byContradiction fun y => zA (gA.mpr fun j hj z => y (Or.inl ⟨j, hj, z⟩))
      refine ⟨fun _ => ?_, fun y => absurd hw y⟩
      rw [s1, B19_35, if_neg zA]
    rw [B19_35, if_pos zA, jgo_some (d := d + 1) rfl eB] at s1
    dsimp only [Option.toList_some, Option.toList_none, List.cons_append, List.nil_append] at s1
    by_cases zB : rB < 0
    case neg =>
      have hw : hadW Q nm s cw (W now) := Classical.byContradiction fun y => zB (gB.mpr fun j hj z => y (Or.inr (Or.inl ⟨j, hj, z⟩)))
      refine ⟨fun _ => ?_, fun y => absurd hw y⟩
      rw [s1, B19_48, if_neg zB]
    rw [B19_48, if_pos zB, jgo_some (d := d + 1) rfl eC] at s1
    dsimp only [Option.toList_some, Option.toList_none, List.cons_append, List.nil_append] at s1
    by_cases zC : rC < 0
    case neg =>
      have hw : hadW Q nm s cw (W now) := Classical.byContradiction fun y => zC (gC.mpr fun j hj z => y (Or.inr (Or.inr (Or.inl ⟨j, hj, z⟩))))
      refine ⟨fun _ => ?_, fun y => absurd hw y⟩
      rw [s1, B19_61, if_neg zC]
    rw [B19_61, if_pos zC, jgo_some (d := d + 1) rfl eN] at s1
    dsimp only [Option.toList_some, Option.toList_none, List.cons_append, List.nil_append] at s1
    by_cases zN : rN < 0
    case neg =>
      have hw : hadW Q nm s cw (W now) := Classical.byContradiction fun y => zN (gN.mpr fun j hj z => y (Or.inr (Or.inr (Or.inr (Or.inl ⟨j, hj, z⟩)))))
      refine ⟨fun _ => ?_, fun y => absurd hw y⟩
      rw [s1, B19_76, if_neg zN]
    rw [B19_76, if_pos zN, jgo_some (d := d + 1) rfl eS] at s1
    dsimp only [Option.toList_some, Option.toList_none, List.cons_append, List.nil_append] at s1
    by_cases zS : rS < 0
    case neg =>
      have hw : hadW Q nm s cw (W now) := Classical.byContradiction fun y => zS (gS.mpr fun j hj z => y (Or.inr (Or.inr (Or.inr (Or.inr ⟨j, hj, z⟩)))))
      refine ⟨fun _ => ?_, fun y => absurd hw y⟩
      rw [s1, B19_91, if_neg zS]
    refine ⟨fun y => ?_, fun _ => ?_⟩
    · rcases y with ⟨j, hj, z⟩ | ⟨j, hj, z⟩ | ⟨j, hj, z⟩ | ⟨j, hj, z⟩ | ⟨j, hj, z⟩
      · exact absurd z (gA.mp zA j hj)
      · exact absurd z (gB.mp zB j hj)
      · exact absurd z (gC.mp zC j hj)
      · exact absurd z (gN.mp zN j hj)
      · exact absurd z (gS.mp zS j hj)
    · rw [s1, B19_91, if_pos zS, a10, show nI now + 1 = nI (now + 1) from nI_add now 1]
  refine ⟨fun q y => ?_, fun q y => (fin q).2 y⟩
  rw [(fin q).1 y, B19_94, a10, show (4 : Int32) = nI 4 from rfl, jgo_some (d := d + 1) rfl (fail_c tk a5 a8 4)]
  dsimp only [Option.toList_some, Option.toList_none, List.cons_append, List.nil_append]
  rw [B19_103]
theorem had_74 {e n : Nat} (x : Int64) (hn : J 0 39 = nI n) (hz : n < 41) (b0 : Int32) (hb : b0 = 0 ∨ b0 = 1) : ∃ b, (b = 0 ∨ b = 1) ∧ (b = 1 ↔ (b0 = 1 ∨ ∃ k, k < n ∧ L' 26 k = x)) ∧ jv e 263 74 [some (.ref 0), some (.long x), none, some (.int b0), some (.int (nI 0))] [] (shR, J, L', pR) = jv e 263 114 [some (.ref 0), some (.long x), none, some (.int b), some (.int (nI 0))] [] (shR, J, L', pR) := by
  obtain ⟨b, ⟨b1, b2⟩, b3⟩ := j_runP (fun i (b : Int32) => jv e 263 74 [some (.ref 0), some (.long x), none, some (.int b), some (.int (nI i))] [] (shR, J, L', pR)) (fun i b => (b = 0 ∨ b = 1) ∧ (b = 1 ↔ (b0 = 1 ∨ ∃ k, k < i ∧ L' 26 k = x))) n (fun i hi b hP => by
    by_cases q : b = 0
    · by_cases z : L' 26 i = x
      · refine ⟨1, ⟨Or.inr rfl, ⟨fun _ => Or.inr ⟨i, by omega, z⟩, fun _ => rfl⟩⟩, ?_⟩
        show jv e 263 74 _ _ _ = jv e 263 74 _ _ _
        rw [B263_74, hn, if_pos (nI_lt hi (by omega)), if_pos q, if_pos (j_in_nI (by omega) (by decide)), nI_clamp (by omega), if_pos ((lcmp_e _ _).mpr z), B263_99, B263_104, show nI i + 1 = nI (i + 1) from nI_add i 1]
      · refine ⟨0, ⟨Or.inl rfl, ⟨fun y => absurd y (by decide), fun y => ?_⟩⟩, ?_⟩
        · have h1 := hP.2
          rw [q] at h1
          refine h1.mpr ?_
          rcases y with y | ⟨k, k1, k2⟩
          · exact Or.inl y
          · refine Or.inr ⟨k, ?_, k2⟩
            rcases Nat.lt_or_eq_of_le (show k ≤ i by omega) with u | u
            · exact u
            · rw [u] at k2; exact absurd k2 z
        · show jv e 263 74 _ _ _ = jv e 263 74 _ _ _
          rw [B263_74, hn, if_pos (nI_lt hi (by omega)), if_pos q, if_pos (j_in_nI (by omega) (by decide)), nI_clamp (by omega), if_neg (fun y => z ((lcmp_e _ _).mp y)), B263_104, show nI i + 1 = nI (i + 1) from nI_add i 1]
    · have q1 : b = 1 := hP.1.resolve_left q
      refine ⟨1, ⟨Or.inr rfl, ⟨fun _ => ?_, fun _ => rfl⟩⟩, ?_⟩
      · rcases hP.2.mp q1 with y | ⟨k, k1, k2⟩
        · exact Or.inl y
        · exact Or.inr ⟨k, by omega, k2⟩
      · show jv e 263 74 _ _ _ = jv e 263 74 _ _ _
        rw [B263_74, hn, if_pos (nI_lt hi (by omega)), if_neg q, B263_99, B263_104, show nI i + 1 = nI (i + 1) from nI_add i 1]) b0 ⟨hb, ⟨fun z => Or.inl z, fun z => by
        rcases z with z | ⟨k, k1, _⟩
        · exact z
        · exact absurd k1 (Nat.not_lt_zero _)⟩⟩
  refine ⟨b, b1, b2, ?_⟩
  refine Eq.trans b3 ?_
  show jv e 263 74 _ _ _ = _
  rw [B263_74, hn, if_neg (nI_nlt (Nat.le_refl _) (by omega))]
  rfl
theorem had_114 {e n : Nat} (x : Int64) (hn : J 0 46 = nI n) (hz : n < 9) (b0 : Int32) (hb : b0 = 0 ∨ b0 = 1) : ∃ b, (b = 0 ∨ b = 1) ∧ (b = 1 ↔ (b0 = 1 ∨ ∃ k, k < n ∧ L' 28 k = x)) ∧ jv e 263 114 [some (.ref 0), some (.long x), none, some (.int b0), some (.int (nI 0))] [] (shR, J, L', pR) = jv e 263 154 [some (.ref 0), some (.long x), none, some (.int b), some (.int (nI 0))] [] (shR, J, L', pR) := by
  obtain ⟨b, ⟨b1, b2⟩, b3⟩ := j_runP (fun i (b : Int32) => jv e 263 114 [some (.ref 0), some (.long x), none, some (.int b), some (.int (nI i))] [] (shR, J, L', pR)) (fun i b => (b = 0 ∨ b = 1) ∧ (b = 1 ↔ (b0 = 1 ∨ ∃ k, k < i ∧ L' 28 k = x))) n (fun i hi b hP => by
    by_cases q : b = 0
    · by_cases z : L' 28 i = x
      · refine ⟨1, ⟨Or.inr rfl, ⟨fun _ => Or.inr ⟨i, by omega, z⟩, fun _ => rfl⟩⟩, ?_⟩
        show jv e 263 114 _ _ _ = jv e 263 114 _ _ _
        rw [B263_114, hn, if_pos (nI_lt hi (by omega)), if_pos q, if_pos (j_in_nI (by omega) (by decide)), nI_clamp (by omega), if_pos ((lcmp_e _ _).mpr z), B263_139, B263_144, show nI i + 1 = nI (i + 1) from nI_add i 1]
      · refine ⟨0, ⟨Or.inl rfl, ⟨fun y => absurd y (by decide), fun y => ?_⟩⟩, ?_⟩
        · have h1 := hP.2
          rw [q] at h1
          refine h1.mpr ?_
          rcases y with y | ⟨k, k1, k2⟩
          · exact Or.inl y
          · refine Or.inr ⟨k, ?_, k2⟩
            rcases Nat.lt_or_eq_of_le (show k ≤ i by omega) with u | u
            · exact u
            · rw [u] at k2; exact absurd k2 z
        · show jv e 263 114 _ _ _ = jv e 263 114 _ _ _
          rw [B263_114, hn, if_pos (nI_lt hi (by omega)), if_pos q, if_pos (j_in_nI (by omega) (by decide)), nI_clamp (by omega), if_neg (fun y => z ((lcmp_e _ _).mp y)), B263_144, show nI i + 1 = nI (i + 1) from nI_add i 1]
    · have q1 : b = 1 := hP.1.resolve_left q
      refine ⟨1, ⟨Or.inr rfl, ⟨fun _ => ?_, fun _ => rfl⟩⟩, ?_⟩
      · rcases hP.2.mp q1 with y | ⟨k, k1, k2⟩
        · exact Or.inl y
        · exact Or.inr ⟨k, by omega, k2⟩
      · show jv e 263 114 _ _ _ = jv e 263 114 _ _ _
        rw [B263_114, hn, if_pos (nI_lt hi (by omega)), if_neg q, B263_139, B263_144, show nI i + 1 = nI (i + 1) from nI_add i 1]) b0 ⟨hb, ⟨fun z => Or.inl z, fun z => by
        rcases z with z | ⟨k, k1, _⟩
        · exact z
        · exact absurd k1 (Nat.not_lt_zero _)⟩⟩
  refine ⟨b, b1, b2, ?_⟩
  refine Eq.trans b3 ?_
  show jv e 263 114 _ _ _ = _
  rw [B263_114, hn, if_neg (nI_nlt (Nat.le_refl _) (by omega))]
  rfl
theorem had_154 {e n : Nat} (x : Int64) (hn : J 0 49 = nI n) (hz : n < 25) (b0 : Int32) (hb : b0 = 0 ∨ b0 = 1) : ∃ b, (b = 0 ∨ b = 1) ∧ (b = 1 ↔ (b0 = 1 ∨ ∃ k, k < n ∧ L' 33 k = x)) ∧ jv e 263 154 [some (.ref 0), some (.long x), none, some (.int b0), some (.int (nI 0))] [] (shR, J, L', pR) = jv e 263 194 [some (.ref 0), some (.long x), none, some (.int b), some (.int (nI 0))] [] (shR, J, L', pR) := by
  obtain ⟨b, ⟨b1, b2⟩, b3⟩ := j_runP (fun i (b : Int32) => jv e 263 154 [some (.ref 0), some (.long x), none, some (.int b), some (.int (nI i))] [] (shR, J, L', pR)) (fun i b => (b = 0 ∨ b = 1) ∧ (b = 1 ↔ (b0 = 1 ∨ ∃ k, k < i ∧ L' 33 k = x))) n (fun i hi b hP => by
    by_cases q : b = 0
    · by_cases z : L' 33 i = x
      · refine ⟨1, ⟨Or.inr rfl, ⟨fun _ => Or.inr ⟨i, by omega, z⟩, fun _ => rfl⟩⟩, ?_⟩
        show jv e 263 154 _ _ _ = jv e 263 154 _ _ _
        rw [B263_154, hn, if_pos (nI_lt hi (by omega)), if_pos q, if_pos (j_in_nI (by omega) (by decide)), nI_clamp (by omega), if_pos ((lcmp_e _ _).mpr z), B263_179, B263_184, show nI i + 1 = nI (i + 1) from nI_add i 1]
      · refine ⟨0, ⟨Or.inl rfl, ⟨fun y => absurd y (by decide), fun y => ?_⟩⟩, ?_⟩
        · have h1 := hP.2
          rw [q] at h1
          refine h1.mpr ?_
          rcases y with y | ⟨k, k1, k2⟩
          · exact Or.inl y
          · refine Or.inr ⟨k, ?_, k2⟩
            rcases Nat.lt_or_eq_of_le (show k ≤ i by omega) with u | u
            · exact u
            · rw [u] at k2; exact absurd k2 z
        · show jv e 263 154 _ _ _ = jv e 263 154 _ _ _
          rw [B263_154, hn, if_pos (nI_lt hi (by omega)), if_pos q, if_pos (j_in_nI (by omega) (by decide)), nI_clamp (by omega), if_neg (fun y => z ((lcmp_e _ _).mp y)), B263_184, show nI i + 1 = nI (i + 1) from nI_add i 1]
    · have q1 : b = 1 := hP.1.resolve_left q
      refine ⟨1, ⟨Or.inr rfl, ⟨fun _ => ?_, fun _ => rfl⟩⟩, ?_⟩
      · rcases hP.2.mp q1 with y | ⟨k, k1, k2⟩
        · exact Or.inl y
        · exact Or.inr ⟨k, by omega, k2⟩
      · show jv e 263 154 _ _ _ = jv e 263 154 _ _ _
        rw [B263_154, hn, if_pos (nI_lt hi (by omega)), if_neg q, B263_179, B263_184, show nI i + 1 = nI (i + 1) from nI_add i 1]) b0 ⟨hb, ⟨fun z => Or.inl z, fun z => by
        rcases z with z | ⟨k, k1, _⟩
        · exact z
        · exact absurd k1 (Nat.not_lt_zero _)⟩⟩
  refine ⟨b, b1, b2, ?_⟩
  refine Eq.trans b3 ?_
  show jv e 263 154 _ _ _ = _
  rw [B263_154, hn, if_neg (nI_nlt (Nat.le_refl _) (by omega))]
  rfl
theorem had_194 {e n : Nat} (x : Int64) (hn : J 0 52 = nI n) (hz : n < 30) (b0 : Int32) (hb : b0 = 0 ∨ b0 = 1) : ∃ b, (b = 0 ∨ b = 1) ∧ (b = 1 ↔ (b0 = 1 ∨ ∃ k, k < n ∧ L' 35 k = x)) ∧ jv e 263 194 [some (.ref 0), some (.long x), none, some (.int b0), some (.int (nI 0))] [] (shR, J, L', pR) = jv e 263 194 [some (.ref 0), some (.long x), none, some (.int b), some (.int (nI n))] [] (shR, J, L', pR) := by
  obtain ⟨b, ⟨b1, b2⟩, b3⟩ := j_runP (fun i (b : Int32) => jv e 263 194 [some (.ref 0), some (.long x), none, some (.int b), some (.int (nI i))] [] (shR, J, L', pR)) (fun i b => (b = 0 ∨ b = 1) ∧ (b = 1 ↔ (b0 = 1 ∨ ∃ k, k < i ∧ L' 35 k = x))) n (fun i hi b hP => by
    by_cases q : b = 0
    · by_cases z : L' 35 i = x
      · refine ⟨1, ⟨Or.inr rfl, ⟨fun _ => Or.inr ⟨i, by omega, z⟩, fun _ => rfl⟩⟩, ?_⟩
        show jv e 263 194 _ _ _ = jv e 263 194 _ _ _
        rw [B263_194, hn, if_pos (nI_lt hi (by omega)), if_pos q, if_pos (j_in_nI (by omega) (by decide)), nI_clamp (by omega), if_pos ((lcmp_e _ _).mpr z), B263_219, B263_224, show nI i + 1 = nI (i + 1) from nI_add i 1]
      · refine ⟨0, ⟨Or.inl rfl, ⟨fun y => absurd y (by decide), fun y => ?_⟩⟩, ?_⟩
        · have h1 := hP.2
          rw [q] at h1
          refine h1.mpr ?_
          rcases y with y | ⟨k, k1, k2⟩
          · exact Or.inl y
          · refine Or.inr ⟨k, ?_, k2⟩
            rcases Nat.lt_or_eq_of_le (show k ≤ i by omega) with u | u
            · exact u
            · rw [u] at k2; exact absurd k2 z
        · show jv e 263 194 _ _ _ = jv e 263 194 _ _ _
          rw [B263_194, hn, if_pos (nI_lt hi (by omega)), if_pos q, if_pos (j_in_nI (by omega) (by decide)), nI_clamp (by omega), if_neg (fun y => z ((lcmp_e _ _).mp y)), B263_224, show nI i + 1 = nI (i + 1) from nI_add i 1]
    · have q1 : b = 1 := hP.1.resolve_left q
      refine ⟨1, ⟨Or.inr rfl, ⟨fun _ => ?_, fun _ => rfl⟩⟩, ?_⟩
      · rcases hP.2.mp q1 with y | ⟨k, k1, k2⟩
        · exact Or.inl y
        · exact Or.inr ⟨k, by omega, k2⟩
      · show jv e 263 194 _ _ _ = jv e 263 194 _ _ _
        rw [B263_194, hn, if_pos (nI_lt hi (by omega)), if_neg q, B263_219, B263_224, show nI i + 1 = nI (i + 1) from nI_add i 1]) b0 ⟨hb, ⟨fun z => Or.inl z, fun z => by
        rcases z with z | ⟨k, k1, _⟩
        · exact z
        · exact absurd k1 (Nat.not_lt_zero _)⟩⟩
  refine ⟨b, b1, b2, ?_⟩
  refine Eq.trans b3 ?_
  rfl
theorem name_r (e : Nat) (ok : pOk g T K P W U Q nm kd nb nl nt nu s cw rho now nc nr I L J L') (o1 o2 o3 o4 : Option Value) :
    (K now ≠ 97 → jv (e + 1) 263 0 [some (.ref 0), o1, o2, o3, o4] [] (shR, J, L', pR) = some (some (.long 0), (shR, flR J 2 (P now), L', pR))) ∧
    (K now = 97 → hadW Q nm s cw (W now) → jv (e + 1) 263 0 [some (.ref 0), o1, o2, o3, o4] [] (shR, J, L', pR) = some (some (.long 0), (shR, flR J 4 (P now), L', pR))) ∧
    (K now = 97 → ¬ hadW Q nm s cw (W now) → jv (e + 1) 263 0 [some (.ref 0), o1, o2, o3, o4] [] (shR, J, L', pR) = some (some (.long (lgN (nR (W now)))), (shR, j_up J 0 28 (nI (now + 1)), L', pR))) := by
  obtain ⟨tk, kw, hN, hC, a5, a6, a7, a8, a9, a10, a11, a12, a13⟩ := ok
  have hT := tk.1
  have kq := tk.2.2.2.1 now a5
  have st : jv (e + 1) 263 0 [some (.ref 0), o1, o2, o3, o4] [] (shR, J, L', pR) = jv (e + 1) 263 5 [some (.ref 0), o1, o2, o3, o4] [.int (if K now = 97 then 1 else 0)] (shR, J, L', pR) := by
    rw [B263_0, show (1 : Int32) = nI (kR 97) from rfl, jgo_some (d := e) rfl (is_r tk a5 a11 (k := 97) (by decide))]
    rfl
  refine ⟨fun q => ?_, ?_⟩
  · rw [st, if_neg q, B263_5, if_pos rfl, a11, if_pos (j_in_nI (by omega) (by decide)), nI_clamp (by omega), kq.2.2.2.1, show (2 : Int32) = nI 2 from rfl, jgo_some (d := e) rfl (fails_rk a9 2 (P now))]
    dsimp only [Option.toList_some, Option.toList_none, List.cons_append, List.nil_append]
    rw [B263_22]
  have fin : K now = 97 → ∃ b : Int32, (b = 1 ↔ hadW Q nm s cw (W now)) ∧ (b = 0 ∨ b = 1) ∧ jv (e + 1) 263 0 [some (.ref 0), o1, o2, o3, o4] [] (shR, J, L', pR) = jv (e + 1) 263 194 [some (.ref 0), some (.long (lgN (nR (W now)))), none, some (.int b), some (.int (nI s))] [] (shR, J, L', pR) := by
    intro q
    have lt := tk.lt a5 q (by decide)
    obtain ⟨w1, w2, w3⟩ := tk.2.2.2.2.2.1 now lt q
    obtain ⟨rA, eA, fA⟩ := among_2008 (e := e) (J := J) (L' := L') w1 none none none none
    obtain ⟨rB, eB, fB⟩ := among_2009 (e := e) (J := J) (L' := L') w1 none none none none
    obtain ⟨rC, eC, fC⟩ := among_2010 (e := e) (J := J) (L' := L') w1 none none none none
    have gA := fA.neg (by decide)
    have gB := fB.neg (by decide)
    have gC := fC.neg (by decide)
    have s1 : jv (e + 1) 263 0 [some (.ref 0), o1, o2, o3, o4] [] (shR, J, L', pR) = jv (e + 1) 263 42 [some (.ref 0), some (.long (lgN (nR (W now)))), none, o3, o4] [.int rA] (shR, J, L', pR) := by
      rw [st, if_pos q, B263_5, if_neg (by decide), a11, if_pos (j_in_nI (by omega) (by decide)), nI_clamp (by omega), w3, jgo_some (d := e) rfl eA]
      rfl
    have s2 : ∃ b : Int32, (b = 0 ∨ b = 1) ∧ (b = 1 ↔ ((∃ i, i < 10 ∧ kwA.getD i [] = W now) ∨ (∃ i, i < 13 ∧ kwB.getD i [] = W now) ∨ (∃ i, i < 11 ∧ kwC.getD i [] = W now))) ∧ jv (e + 1) 263 0 [some (.ref 0), o1, o2, o3, o4] [] (shR, J, L', pR) = jv (e + 1) 263 74 [some (.ref 0), some (.long (lgN (nR (W now)))), none, some (.int b), some (.int (nI 0))] [] (shR, J, L', pR) := by
      by_cases zA : rA < 0
      case neg =>
        refine ⟨1, Or.inr rfl, ⟨fun _ => Classical.byContradiction fun y => zA (gA.mpr fun j hj z => y (Or.inl ⟨j, hj, z⟩)), fun _ => rfl⟩, ?_⟩
        rw [s1, B263_42, if_neg zA, B263_65, B263_70]; rfl
      rw [B263_42, if_pos zA, jgo_some (d := e) rfl eB] at s1
      dsimp only [Option.toList_some, Option.toList_none, List.cons_append, List.nil_append] at s1
      by_cases zB : rB < 0
      case neg =>
        refine ⟨1, Or.inr rfl, ⟨fun _ => Classical.byContradiction fun y => zB (gB.mpr fun j hj z => y (Or.inr (Or.inl ⟨j, hj, z⟩))), fun _ => rfl⟩, ?_⟩
        rw [s1, B263_52, if_neg zB, B263_65, B263_70]; rfl
      rw [B263_52, if_pos zB, jgo_some (d := e) rfl eC] at s1
      dsimp only [Option.toList_some, Option.toList_none, List.cons_append, List.nil_append] at s1
      by_cases zC : rC < 0
      case neg =>
        refine ⟨1, Or.inr rfl, ⟨fun _ => Classical.byContradiction fun y => zC (gC.mpr fun j hj z => y (Or.inr (Or.inr ⟨j, hj, z⟩))), fun _ => rfl⟩, ?_⟩
        rw [s1, B263_62, if_neg zC, B263_65, B263_70]; rfl
      refine ⟨0, Or.inl rfl, ⟨fun y => absurd y (by decide), fun y => ?_⟩, ?_⟩
      · rcases y with ⟨j, hj, z⟩ | ⟨j, hj, z⟩ | ⟨j, hj, z⟩
        · exact absurd z (gA.mp zA j hj)
        · exact absurd z (gB.mp zB j hj)
        · exact absurd z (gC.mp zC j hj)
      · rw [s1, B263_62, if_pos zC, B263_70]; rfl
    obtain ⟨b0, b01, b02, b03⟩ := s2
    obtain ⟨hQ, _, l1, l2, l3, j39, j46, j49, nq, n2, n3, n14, ninj⟩ := hN
    obtain ⟨b1, b11, b12, b13⟩ := had_74 (e := e + 1) (J := J) (L' := L') (lgN (nR (W now))) j39 (by omega) b0 b01
    obtain ⟨b2, b21, b22, b23⟩ := had_114 (e := e + 1) (J := J) (L' := L') (lgN (nR (W now))) j46 (by omega) b1 b11
    obtain ⟨b3, b31, b32, b33⟩ := had_154 (e := e + 1) (J := J) (L' := L') (lgN (nR (W now))) j49 (by omega) b2 b21
    obtain ⟨b4, b41, b42, b43⟩ := had_194 (e := e + 1) (J := J) (L' := L') (lgN (nR (W now))) hC.2.2.1 (by have := hC.1; omega) b3 b31
    refine ⟨b4, ⟨fun y => ?_, fun y => ?_⟩, b41, ?_⟩
    · rcases b42.mp y with y | ⟨k, k1, k2⟩
      · rcases b32.mp y with y | ⟨k, k1, k2⟩
        · rcases b22.mp y with y | ⟨k, k1, k2⟩
          · rcases b12.mp y with y | ⟨k, k1, k2⟩
            · rcases b02.mp y with y | y | y
              · exact Or.inl y
              · exact Or.inr (Or.inl y)
              · exact Or.inr (Or.inr (Or.inl y))
            · obtain ⟨r, r1, r2, r3⟩ := n2 k k1
              obtain ⟨u1, _, _, _, u5⟩ := nq r r1
              refine Or.inr (Or.inr (Or.inr (Or.inl ⟨r, r1, ?_⟩)))
              rcases u5 with u | u | u
              · rw [r3] at u; rw [u.2.2] at k2; exact (wR_inj u1 w1).mp k2
              · omega
              · omega
          · obtain ⟨r, r1, r2, r3⟩ := n3 k k1
            obtain ⟨u1, _, _, _, u5⟩ := nq r r1
            refine Or.inr (Or.inr (Or.inr (Or.inl ⟨r, r1, ?_⟩)))
            rcases u5 with u | u | u
            · omega
            · rw [r3] at u; rw [u.2.2] at k2; exact (wR_inj u1 w1).mp k2
            · omega
        · obtain ⟨r, r1, r2, r3⟩ := n14 k k1
          obtain ⟨u1, _, _, _, u5⟩ := nq r r1
          refine Or.inr (Or.inr (Or.inr (Or.inl ⟨r, r1, ?_⟩)))
          rcases u5 with u | u | u
          · omega
          · omega
          · rw [r3] at u; rw [u.2.2] at k2; exact (wR_inj u1 w1).mp k2
      · obtain ⟨u1, u2, u3, _⟩ := hC.2.2.2.1 k k1
        rw [u3] at k2
        exact Or.inr (Or.inr (Or.inr (Or.inr ⟨k, k1, (wR_inj u1 w1).mp k2⟩)))
    · rcases y with y | y | y | ⟨r, r1, r2⟩ | ⟨k, k1, k2⟩
      · exact b42.mpr (Or.inl (b32.mpr (Or.inl (b22.mpr (Or.inl (b12.mpr (Or.inl (b02.mpr (Or.inl y)))))))))
      · exact b42.mpr (Or.inl (b32.mpr (Or.inl (b22.mpr (Or.inl (b12.mpr (Or.inl (b02.mpr (Or.inr (Or.inl y))))))))))
      · exact b42.mpr (Or.inl (b32.mpr (Or.inl (b22.mpr (Or.inl (b12.mpr (Or.inl (b02.mpr (Or.inr (Or.inr y))))))))))
      · obtain ⟨u1, _, _, _, u5⟩ := nq r r1
        rcases u5 with u | u | u
        · exact b42.mpr (Or.inl (b32.mpr (Or.inl (b22.mpr (Or.inl (b12.mpr (Or.inr ⟨nb r, u.2.1, by rw [u.2.2, r2]⟩)))))))
        · exact b42.mpr (Or.inl (b32.mpr (Or.inl (b22.mpr (Or.inr ⟨nb r, u.2.1, by rw [u.2.2, r2]⟩)))))
        · exact b42.mpr (Or.inl (b32.mpr (Or.inr ⟨nb r, u.2.1, by rw [u.2.2, r2]⟩)))
      · obtain ⟨u1, u2, u3, _⟩ := hC.2.2.2.1 k k1
        exact b42.mpr (Or.inr ⟨k, k1, by rw [u3, k2]⟩)
    · rw [b03, b13, b23, b33, b43]
  refine ⟨fun q y => ?_, fun q y => ?_⟩
  · obtain ⟨b, b1, b2, b3⟩ := fin q
    rw [b3, b1.mpr y, B263_194, hC.2.2.1, if_neg (nI_nlt (Nat.le_refl _) (by have := hC.1; omega)), if_neg (by decide), a11, if_pos (j_in_nI (by omega) (by decide)), nI_clamp (by omega), kq.2.2.2.1, show (4 : Int32) = nI 4 from rfl, jgo_some (d := e) rfl (fails_rk a9 4 (P now))]
    dsimp only [Option.toList_some, Option.toList_none, List.cons_append, List.nil_append]
    rw [B263_249]
  · obtain ⟨b, b1, b2, b3⟩ := fin q
    rw [b3, b2.resolve_right (fun z => y (b1.mp z)), B263_194, hC.2.2.1, if_neg (nI_nlt (Nat.le_refl _) (by have := hC.1; omega)), if_pos rfl, a11, show nI now + 1 = nI (now + 1) from nI_add now 1]
end PARJ
