/-! SEA: the heel, first one -/
section SEBG
variable {d e : Nat} {I J : Nat → Nat → Int32} {L L' : Nat → Nat → Int64} {pa pb pu pw : Option Nat} {m : Nat → Int32} {o : Nat}
/-- a slope with a trim that was looked at in this turn -/
def lkd (m : Nat → Int32) (o : Nat) (I : Nat → Nat → Int32) (c : Int) : Prop := I 71 (c + 2048).toNat = I 60 6 ∧ ∃ b, tR m o c = some b
theorem sD_tR {c : Int} {t : Bool} (h : sD m o c = some t) : ∃ b, tR m o c = some b := by
  unfold sD at h
  cases hq : tR m o c with
  | none => rw [hq] at h; cases h
  | some bb => exact ⟨bb, rfl⟩
theorem heel_c (h : seaC m o I J L) (hm : memK m o I L) {N : Nat} (ht : turK N I) (hW : WT m o < VW m o 0 200000 0 0) : ∃ I' L', leF I I' L L' ∧ memK m o I' L' ∧ turK N I' ∧ (∀ c, hE m o = some c → (-2048 ≤ c ∧ c < 2048) ∧ lkd m o I' c) ∧ jv (d + 4) 105 0 [some (.ref 60), none, none, none, none, none, none, none, none, none, none] [] (shC, I, L, pX pa pb pu pw) = some (some (.int (match hE m o with | none => 1048576 | some c => vI c)), (shC, I', L', pX pa pb pu pw)) := by
  have loop : ∀ (n k : Nat) (lo hi : Int) (I1 : Nat → Nat → Int32) (L1 : Nat → Nat → Int64) (l3 l5 : Int64) (o8 o9 o10 : Option Value), k + n = 13 → lo < hi → -2048 ≤ lo → hi ≤ 2048 → leF I I1 L L1 → memK m o I1 L1 → turK N I1 → lkd m o I1 lo → ∃ I' L', leF I I' L L' ∧ memK m o I' L' ∧ turK N I' ∧ (∀ c, hlS (sD m o) n lo hi = some c → (-2048 ≤ c ∧ c < 2048) ∧ lkd m o I' c) ∧ jv (d + 4) 105 57 [some (.ref 60), some (.int (vI lo)), some (.int (vI hi)), some (.long l3), none, some (.long l5), none, some (.int (nI k)), o8, o9, o10] [] (shC, I1, L1, pX pa pb pu pw) = some (some (.int (match hlS (sD m o) n lo hi with | none => 1048576 | some c => vI c)), (shC, I', L', pX pa pb pu pw)) := by
    intro n
    induction n with
    | zero =>
      intro k lo hi I1 L1 l3 l5 o8 o9 o10 hk hl h1 h2 f1 m1 t1 tb
      refine ⟨I1, L1, f1, m1, t1, fun c hc => ?_, ?_⟩
      · injection hc with hc
        subst hc
        exact ⟨by omega, tb⟩
      · rw [B105_57, if_neg (show ¬ nI k < 13 from nI_nlt (b := 13) (by omega) (by omega)), B105_122]
        rfl
    | succ n ih =>
      intro k lo hi I1 L1 l3 l5 o8 o9 o10 hk hl h1 h2 f1 m1 t1 tb
      rw [B105_57, if_pos (show nI k < 13 from nI_lt (b := 13) (by omega) (by decide))]
      by_cases g : 1 < hi - lo
      case neg =>
        refine ⟨I1, L1, f1, m1, t1, fun c hc => ?_, ?_⟩
        · unfold hlS at hc
          rw [if_neg g] at hc
          injection hc with hc
          subst hc
          exact ⟨by omega, tb⟩
        · rw [vI_sub, if_neg (show ¬ (1 : Int32) < vI (hi - lo) from fun y => g ((vI_lt (a := 1) (by omega) (by omega) (by omega) (by omega)).mp y)), B105_122]
          unfold hlS
          rw [if_neg g]
      have hS := h.frl f1
      obtain ⟨I2, L2, f2, m2, t2, b2, r2⟩ := lever_c (d := d) (pa := pa) (pb := pb) (pu := pu) (pw := pw) hS m1 t1 (c := lo + (hi - lo) / 2) (by omega)
      obtain ⟨s1, s2⟩ := lvV_s (J := J) hS hW (c := lo + (hi - lo) / 2) (by omega)
      rw [if_pos (show (1 : Int32) < vI hi - vI lo by rw [vI_sub]; exact (vI_lt (a := 1) (by omega) (by omega) (by omega) (by omega)).mpr g), if_neg (show ¬ (2 : Int32) = 0 by decide), vI_half' g (by omega), jgo_some (d := d + 3) rfl r2]
      dsimp only [Option.toList_some, List.cons_append, List.nil_append]
      rw [B105_86]
      unfold hlS
      rw [if_pos g]
      have fr2 := f1.trans f2
      cases hs : sD m o (lo + (hi - lo) / 2) with
      | none =>
        refine ⟨I2, L2, fr2, m2, t2, fun c hc => (by cases hc), ?_⟩
        rw [if_pos ((lcmp_e _ _).mpr (s1.mpr hs))]
      | some t =>
        have ne : ¬ lvV m o (lo + (hi - lo) / 2) = -9223372036854775808 := fun y => by
          have := s1.mp y
          rw [hs] at this
          cases this
        rw [if_neg (fun y => ne ((lcmp_e _ _).mp y))]
        cases t with
        | true =>
          have p0 := (s2.mp hs).2
          rw [if_pos ((lc0 _).mpr p0), B105_116, nI_1]
          exact ih (k + 1) lo _ I2 L2 l3 l5 _ _ _ (by omega) (by omega) h1 (by omega) fr2 m2 t2 ⟨b2 _ (by omega) (Or.inl tb.1), tb.2⟩
        | false =>
          have p0 : ¬ 0 < (lvV m o (lo + (hi - lo) / 2)).toInt := fun y => by
            have := s2.mpr ⟨ne, y⟩
            rw [hs] at this
            cases this
          rw [if_neg (fun y => p0 ((lc0 _).mp y)), B105_116, nI_1]
          exact ih (k + 1) _ hi I2 L2 l3 l5 _ _ _ (by omega) (by omega) (by omega) h2 fr2 m2 t2 ⟨b2 _ (by omega) (Or.inr rfl), sD_tR hs⟩
  obtain ⟨I1, L1, f1, m1, t1, b1, r1⟩ := lever_c (d := d) (pa := pa) (pb := pb) (pu := pu) (pw := pw) h hm ht (c := -2048) (by omega)
  have hS := h.frl f1
  obtain ⟨I2, L2, f2, m2, t2, b2, r2⟩ := lever_c (d := d) (pa := pa) (pb := pb) (pu := pu) (pw := pw) hS m1 t1 (c := 2048) (by omega)
  obtain ⟨s1, s2⟩ := lvV_s (J := J) h hW (c := -2048) (by omega)
  obtain ⟨s3, s4⟩ := lvV_s (J := J) h hW (c := 2048) (by omega)
  have fr2 := f1.trans f2
  rw [B105_0, show (-2048 : Int32) = vI (-2048) from rfl, show (2048 : Int32) = vI 2048 from rfl, jgo_some (d := d + 3) rfl r1]
  dsimp only [Option.toList_some, List.cons_append, List.nil_append]
  rw [B105_13, jgo_some (d := d + 3) rfl r2]
  dsimp only [Option.toList_some, List.cons_append, List.nil_append]
  rw [B105_19, B105_51]
  have out : hE m o = none → ∃ I' L', leF I I' L L' ∧ memK m o I' L' ∧ turK N I' ∧ (∀ c, hE m o = some c → (-2048 ≤ c ∧ c < 2048) ∧ lkd m o I' c) ∧ some (some (Value.int 1048576), (shC, I2, L2, pX pa pb pu pw)) = some (some (.int (match hE m o with | none => 1048576 | some c => vI c)), (shC, I', L', pX pa pb pu pw)) := fun hn => ⟨I2, L2, fr2, m2, t2, fun c hc => (by rw [hn] at hc; cases hc), by rw [hn]⟩
  by_cases q1 : lvV m o (-2048) = -9223372036854775808
  · rw [if_pos ((lcmp_e _ _).mpr q1)]
    exact out (by unfold hE; rw [s1.mp q1])
  rw [if_neg (fun y => q1 ((lcmp_e _ _).mp y))]
  by_cases q2 : lvV m o 2048 = -9223372036854775808
  · rw [if_pos ((lcmp_e _ _).mpr q2)]
    exact out (by unfold hE; rw [s3.mp q2]; split <;> simp_all)
  rw [if_neg (fun y => q2 ((lcmp_e _ _).mp y))]
  by_cases q3 : 0 < (lvV m o (-2048)).toInt
  · rw [if_pos ((lc0 _).mpr q3)]
    exact out (by unfold hE; rw [s2.mpr ⟨q1, q3⟩])
  rw [if_neg (fun y => q3 ((lc0 _).mp y))]
  by_cases q4 : 0 < (lvV m o 2048).toInt
  · have e1 : sD m o (-2048) = some false := by
      cases hs : sD m o (-2048) with
      | none => exact absurd (s1.mpr hs) q1
      | some t =>
        cases t with
        | false => rfl
        | true => exact absurd (s2.mp hs).2 q3
    have e2 : sD m o 2048 = some true := s4.mpr ⟨q2, q4⟩
    have e3 : hE m o = hlS (sD m o) 13 (-2048) 2048 := by unfold hE; rw [e1, e2]
    rw [if_pos ((lc0 _).mpr q4), e3, show (0 : Int32) = nI 0 from rfl]
    exact loop 13 0 (-2048) 2048 I2 L2 _ _ none none none (by omega) (by omega) (by omega) (by omega) fr2 m2 t2 ⟨b2 _ (by decide) (Or.inl (b1 _ (by decide) (Or.inr rfl))), sD_tR e1⟩
  · rw [if_neg (fun y => q4 ((lc0 _).mp y))]
    refine out ?_
    unfold hE
    cases hs : sD m o 2048 with
    | none => exact absurd (s3.mpr hs) q2
    | some t =>
      cases t with
      | true => exact absurd (s4.mp hs).2 q4
      | false => split <;> simp_all
end SEBG
