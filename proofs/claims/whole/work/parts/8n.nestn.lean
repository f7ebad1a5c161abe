/-! PLATES: the plates in their order, in both -/
theorem row_0 {n : Nat} (hn : n < 2 ^ 24) : nI n = 0 ↔ ∀ i, i < 24 → ¬ ibit i (nI n) := by
  constructor
  · intro q i hi z
    rw [q] at z
    exact ibit_0 i z
  · intro q
    have : n = 0 := by
      apply Nat.eq_of_testBit_eq
      intro i
      rw [Nat.zero_testBit]
      by_cases hi : i < 24
      · have h1 : ¬ n / 2 ^ i % 2 = 1 := fun z => q i hi ((ibit_nI (by omega) (by omega)).mpr z)
        rw [Nat.testBit_eq_decide_div_mod_eq]
        simp [h1]
      · exact Nat.testBit_lt_two_pow (Nat.lt_of_lt_of_le hn (Nat.pow_le_pow_right (by decide) (by omega)))
    rw [this]
    rfl
theorem ps_same {cn od : Nat → Nat} {r r' : Nat} (h : r ≤ r') (z : ∀ k, r ≤ k → k < r' → cn (od k) = 0) : psN cn od r' = psN cn od r := by
  induction r' with
  | zero => rw [show r = 0 by omega]
  | succ n ih =>
    by_cases e : r = n + 1
    · rw [e]
    · show psN cn od n + cn (od n) = _
      rw [ih (by omega) (fun k a b => z k a (by omega)), z n (by omega) (by omega), Nat.add_zero]
theorem sm_one {f : Nat → Nat} {n : Nat} (h1 : ∀ i, f i ≤ 1) (h : smN f n = n) : ∀ i, i < n → f i = 1 := by
  induction n with
  | zero => intro i hi; omega
  | succ n ih =>
    intro i hi
    have h2 : smN f n + f n = n + 1 := h
    have h3 := smN_le f 1 n (fun i _ => h1 i)
    have h4 := h1 n
    by_cases e : i = n
    · rw [e]; omega
    · exact ih (by omega) i (by omega)
def frM (I I' : Nat → Nat → Int32) : Prop := (∀ c, c ≠ 83 → c ≠ 84 → c ≠ 85 → c ≠ 86 → c ≠ 87 → c ≠ 88 → c ≠ 90 → c ≠ 92 → c ≠ 93 → I' c = I c) ∧ ∀ f, f ≠ 1 → f ≠ 2 → I' 83 f = I 83 f
section NESTN
variable {d e : Nat} {pa pb pu pw : Option Nat} {a : Nat → Nat → Nat} {cn od : Nat → Nat} {w h : Nat}
theorem ls_all {J : Nat → Nat → Int32} (S : lsIn a cn od 8 J) {k : Nat} (hk : k < 8) : ∃ r, r < 8 ∧ od r = k := by
  have h1 := sm_one (f := dnN J) (fun i => by unfold dnN; split <;> omega) S.1 k hk
  refine S.2.2.2.1 k hk (fun z => ?_)
  unfold dnN at h1
  rw [if_pos z] at h1
  omega
theorem next_sim {I J : Nat → Nat → Int32} {L L' : Nat → Nat → Int64} {Jl : Nat → Nat → Int32} (LS : lsIn a cn od 8 Jl) (hr : rCst J) {g r i m : Nat} {nr : Nat → Nat → Nat → Prop} {o : Nat → Nat → Nat → Nat} {dn : Int32} (hg : g < 4) (hi8 : i < 8) (hr8 : r ≤ 8) (hir : i ≤ r ∨ ∀ r', r ≤ r' → r' < 8 → cn (od r') = 0) (hbit : ∀ k, k < 8 → (ibit k dn ↔ 0 < cn k ∧ ∃ r', r' < r ∧ od r' = k)) (hpl : ∀ k, k < 8 → 0 < cn k → 0 < cellN (a k) 12 ∧ ∃ W H, plIn (plV (fun j => nI (a k j))) W H) (haI : ∀ k, k < 8 → ∀ j, j < 12 → a k j < 2 ^ 24 ∧ I 2 (600 + k * 14 + j) = nI (a k j)) (hcI : ∀ k, k < 8 → cn k ≤ 4 ∧ I 2 (600 + k * 14 + 12) = nI (cn k)) (haJ : ∀ k, k < 8 → ∀ j, j < 12 → J 6 (600 + k * 14 + j) = nI (a k j)) (h13 : ∀ k, k < 8 → I 2 (600 + k * 14 + 13) = J 6 (600 + k * 14 + 13)) (h88 : J 0 88 = nI (psN cn od 8)) (h48 : J 48 = Jl 48) (f4 : J 6 4 = nI w) (f5 : J 6 5 = nI h) (hw : w ≤ 64) (hh : h ≤ 48) (e3 : I 83 3 = nI w) (e4 : I 83 4 = nI h) (e5 : I 83 5 = nI g) (hS : nsR w h (psN cn od r) nr o m I J L) (o5 : Option Value) : ∃ r' m' nr' o' dn' I' L1 J', r' ≤ 8 ∧ (i + 1 ≤ r' ∨ ∀ q, r' ≤ q → q < 8 → cn (od q) = 0) ∧ (∀ k, k < 8 → (ibit k dn' ↔ 0 < cn k ∧ ∃ q, q < r' ∧ od q = k)) ∧ nsR w h (psN cn od r') nr' o' m' I' J' L1 ∧ frM I I' ∧ (∀ c, c ≠ 89 → c ≠ 91 → L1 c = L c) ∧ frQ J J' ∧ (∃ z5 : Option Value, jv (d + 3) 113 58 [some (.ref 83), some (.ref 1), some (.int (nI g)), some (.int dn), some (.int (nI i)), o5] [] (shC, I, L, pX pa pb pu pw) = jv (d + 3) 113 58 [some (.ref 83), some (.ref 1), some (.int (nI g)), some (.int dn'), some (.int (nI (i + 1))), z5] [] (shC, I', L1, pX pa pb pu pw)) ∧ jv (e + 4) 334 66 [some (.ref 0), some (.int (nI g)), some (.int (nI (psN cn od r)))] [] (shR, J, L', pR) = jv (e + 4) 334 66 [some (.ref 0), some (.int (nI g)), some (.int (nI (psN cn od r')))] [] (shR, J', L', pR) := by
  obtain ⟨ls1, ls2, ls3, ls4, ls5, ls6⟩ := id LS
  obtain ⟨R, mm, hB, k1⟩ := largest_c (d := d + 1) (L := L) (pa := pa) (pb := pb) (pu := pu) (pw := pw) (a := a) (cn := cn) haI hcI dn
  have i8 : nI i < (8 : Int32) := nI_lt (b := 8) hi8 (by decide)
  have odi : ∀ x y, x < 8 → y < 8 → od x = od y → x = y := fun x y hx hy z => by
    apply Classical.byContradiction
    intro u
    by_cases v : x < y
    · exact ls5 x y v hy z
    · exact ls5 y x (by omega) hx z.symm
  rcases hB with ⟨y1, -, y3⟩ | ⟨b, y1, y2, -, y4, y5⟩
  · refine ⟨r, m, nr, o, dn, I, L, J, hr8, Or.inr (fun q h1 h2 => ?_), hbit, hS, ⟨fun _ _ _ _ _ _ _ _ _ _ => rfl, fun _ _ _ => rfl⟩, fun _ _ _ => rfl, ⟨fun _ _ _ _ _ _ _ _ _ _ => rfl, fun _ _ _ => rfl⟩, ⟨some (.int R), ?_⟩, rfl⟩
    · have hk := (ls3 q h2).1
      apply Classical.byContradiction
      intro z
      refine y3 (od q) hk ⟨fun u => ?_, by omega, (hpl _ hk (by omega)).1⟩
      obtain ⟨-, r', u1, u2⟩ := (hbit _ hk).mp u
      have := odi r' q (by omega) h2 u2
      omega
    · rw [B113_58, if_pos i8, jgo_some (d := d + 2) rfl k1]
      dsimp only [Option.toList_some, List.cons_append, List.nil_append]
      rw [B113_70, y1, if_pos (by decide), B113_98, nI_1 i]
  · obtain ⟨rs, hrs, hod⟩ := ls_all LS y1
    have hcn : 0 < cn b := y4.2.1
    have hge : r ≤ rs := by
      apply Classical.byContradiction
      intro z
      exact y4.1 ((hbit b y1).mpr ⟨hcn, rs, by omega, hod⟩)
    have hz0 : ∀ k, r ≤ k → k < rs → cn (od k) = 0 := fun k h1 h2 => by
      apply Classical.byContradiction
      intro z
      have hk := (ls3 k (by omega)).1
      have hcand : candP a cn dn (od k) := ⟨fun u => by
        obtain ⟨-, r', u1, u2⟩ := (hbit _ hk).mp u
        have := odi r' k (by omega) (by omega) u2
        omega, by omega, (hpl _ hk (by omega)).1⟩
      have p1 := y5 (od k) hk hcand
      have p2 := ls6 k (by omega) b y1 (Or.inr ⟨rs, by omega, hrs, hod⟩)
      unfold preN at p2
      have : od k = od rs := by omega
      have := odi k rs (by omega) hrs this
      omega
    have hps := ps_same hge hz0
    obtain ⟨W, H, G⟩ := (hpl b y1 hcn).2
    obtain ⟨I1, L2, s1, s2, s3, s4⟩ := shape_c (d := d + 1) (L := L) (pa := pa) (pb := pb) (pu := pu) (pw := pw) G (fun j hj => row_0 (haI b y1 j hj).1) y1 (fun j hj => (haI b y1 j hj).2)
    have hS1 : nsR w h (psN cn od rs) nr o m I1 J L2 := by
      rw [hps]
      obtain ⟨n1, n2, n3, n4, n5, n6, n7, n8, n9, n10, n11, n12⟩ := hS
      refine ⟨?_, n2, ?_, n4, n5, n6, n7, by rw [s1 83 (by decide) (by decide), n8], by rw [s1 83 (by decide) (by decide), n9], n10, n11, fun k hk => ?_⟩
      · unfold barC
        rw [s2 89 (by decide)]
        exact n1
      · unfold ownC
        rw [s1 90 (by decide) (by decide)]
        exact n3
      · rw [s1 84 (by decide) (by decide), s1 85 (by decide) (by decide), s1 86 (by decide) (by decide), s1 87 (by decide) (by decide), s1 88 (by decide) (by decide)]
        exact n12 k hk
    have i2 : I1 2 = I 2 := s1 2 (by decide) (by decide)
    have i83 : I1 83 = I 83 := s1 83 (by decide) (by decide)
    have hN := ps_le (cn := cn) (od := od) (r := 8) (fun r' h => (hcI _ (ls3 r' h).1).1)
    have hpm := ps_mono (cn := cn) (od := od) hrs
    rw [hod] at hpm
    obtain ⟨I', L1, J', nr', o', m', g1, g2, g3, g4, g5, g6⟩ := plate_sim (d := d) (e := e) (L' := L') (pa := pa) (pb := pb) (pu := pu) (pw := pw) (N := psN cn od 8) (g := g) G hr y1 hpm (by omega) hg (hcI b y1).1 h88 (fun i hi => by rw [h48, ← hod]; exact (ls3 rs hrs).2.2 i (by rw [hod]; exact hi)) (fun j hj => haJ b y1 j hj) (by rw [i2]; exact h13 b y1) (by rw [i2]; exact (hcI b y1).2) f4 f5 hw hh (by rw [i83, e3]) (by rw [i83, e4]) (by rw [i83, e5]) s3 hS1
    have hnx : psN cn od (rs + 1) = psN cn od rs + cn b := by
      show psN cn od rs + cn (od rs) = _
      rw [hod]
    refine ⟨rs + 1, m', nr', o', dn ||| ((1 : Int32) <<< (nI b &&& 31)), I', L1, J', by omega, ?_, fun k hk => ?_, by rw [hnx]; exact g1, ⟨fun c x1 x2 x3 x4 x5 x6 x7 x8 x9 => by rw [g2.1 c x1 x2 x3 x4 x5 x6 x7, s1 c x8 x9], fun f x1 x2 => by rw [g2.2 f x1 x2, i83]⟩, fun c x1 x2 => by rw [g3 c x1, s2 c x2], g4, ⟨some (.int (nI b)), ?_⟩, ?_⟩
    · left
      rcases hir with z | z
      · omega
      · have := z rs hge hrs
        rw [hod] at this
        omega
    · rw [ibit_set y1 hk, hbit k hk]
      constructor
      · rintro (⟨z1, q, z2, z3⟩ | z)
        · exact ⟨z1, q, by omega, z3⟩
        · rw [z]
          exact ⟨hcn, rs, by omega, hod⟩
      · rintro ⟨z1, q, z2, z3⟩
        by_cases u : q < r
        · exact Or.inl ⟨z1, q, u, z3⟩
        · by_cases v : q = rs
          · right
            rw [← z3, v, hod]
          · have := hz0 q (by omega) (by omega)
            rw [z3] at this
            omega
    · rw [B113_58, if_pos i8, jgo_some (d := d + 2) rfl k1]
      dsimp only [Option.toList_some, List.cons_append, List.nil_append]
      rw [y2, B113_70, if_neg (show ¬ nI b < 0 from nI_nlt (b := 0) (by omega) (by omega)), jgo_some (d := d + 2) rfl s4]
      dsimp only [Option.toList_none, List.nil_append]
      rw [B113_91, jgo_some (d := d + 2) rfl g5]
      dsimp only [Option.toList_none, List.nil_append]
      rw [B113_98, nI_1 i]
    · rw [hnx, ← hps]
      exact g6
end NESTN
