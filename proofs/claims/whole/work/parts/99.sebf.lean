/-! SEA: levers and the heel, first one -/
section SEBF
variable {d e : Nat} {I J : Nat → Nat → Int32} {L L' : Nat → Nat → Int64} {pa pb pu pw : Option Nat} {m : Nat → Int32} {o : Nat}
/-- the lever's number -/
noncomputable def lvV (m : Nat → Int32) (o : Nat) (c : Int) : Int64 := match tR m o c with | none => -9223372036854775808 | some b => tU m o b c
/-- levers that were worked out in this turn are right -/
def memK (m : Nat → Int32) (o : Nat) (I : Nat → Nat → Int32) (L : Nat → Nat → Int64) : Prop := ∀ i, i < 4097 → I 71 i = I 60 6 → L 70 i = lvV m o ((i : Int) - 2048) ∧ ∀ b, tR m o ((i : Int) - 2048) = some b → I 69 i = vI b
/-- the turns of the levers -/
def turK (N : Nat) (I : Nat → Nat → Int32) : Prop := I 60 6 = nI N ∧ ∀ i, i < 4097 → ∃ k, k ≤ N ∧ I 71 i = nI k
/-- what a lever leaves alone -/
def leF (I I' : Nat → Nat → Int32) (L L' : Nat → Nat → Int64) : Prop := (∀ c, c ≠ 69 → c ≠ 71 → c ≠ 82 → I' c = I c) ∧ nearK I' ∧ (∀ c, c ≠ 60 → c ≠ 64 → c ≠ 70 → c ≠ 72 → L' c = L c) ∧ ∀ j, j ≠ 8 → L' 60 j = L 60 j
theorem leF.rfl' (h : nearK I) : leF I I L L := ⟨fun _ _ _ _ => rfl, h, fun _ _ _ _ _ => rfl, fun _ _ => rfl⟩
theorem leF.trans {I1 I2 : Nat → Nat → Int32} {L1 L2 : Nat → Nat → Int64} (a : leF I I1 L L1) (b : leF I1 I2 L1 L2) : leF I I2 L L2 := ⟨fun c h1 h2 h3 => by rw [b.1 c h1 h2 h3, a.1 c h1 h2 h3], b.2.1, fun c h1 h2 h3 h4 => by rw [b.2.2.1 c h1 h2 h3 h4, a.2.2.1 c h1 h2 h3 h4], fun j hj => by rw [b.2.2.2 j hj, a.2.2.2 j hj]⟩
theorem tiF.le {I' : Nat → Nat → Int32} {L' : Nat → Nat → Int64} (a : tiF I I' L L') : leF I I' L L' := ⟨fun c _ _ h => a.1 c h, a.2.1, fun c h1 h2 _ h4 => a.2.2.1 c h1 h2 h4, a.2.2.2⟩
theorem seaC.frl {I' : Nat → Nat → Int32} {L' : Nat → Nat → Int64} (h : seaC m o I J L) (f : leF I I' L L') : seaC m o I' J L' := by
  obtain ⟨⟨h1, h2, h3, h4⟩, hE, hB, hn, h5, h6, h7, ⟨h8, h9, h10⟩, h11, h12, h13⟩ := h
  obtain ⟨f1, f2, f3, f4⟩ := f
  have fI : ∀ c, (c < 69 ∨ 71 < c) → c ≠ 82 → I' c = I c := fun c h1 h2 => f1 c (by omega) (by omega) h2
  have fL : ∀ c, 60 < c → c < 70 → c ≠ 64 → L' c = L c := fun c h1 h2 h3 => f3 c (by omega) h3 (by omega) (by omega)
  refine ⟨⟨h1.fr (fun q _ => by rw [fI 2 (by decide) (by decide)]), h2, h3, h4⟩, ⟨fun i hi => ?_, fun k hk => ?_⟩, fun k hk => ?_, f2, ?_, fun p hp => ?_, ?_, ⟨?_, ?_, ?_⟩, fun p hp => ?_, ?_, ?_⟩
  · rw [fI 73 (by decide) (by decide), fI 74 (by decide) (by decide)]; exact hE.1 i hi
  · rw [fI 75 (by decide) (by decide), fI 76 (by decide) (by decide), fI 77 (by decide) (by decide), fI 78 (by decide) (by decide), fI 79 (by decide) (by decide), fI 80 (by decide) (by decide)]; exact hE.2 k hk
  · rw [fI 81 (by decide) (by decide)]; exact hB k hk
  · rw [fI 60 (by decide) (by decide)]; exact h5
  · rw [fI 60 (by decide) (by decide)]; exact h6 p hp
  · rw [f4 7 (by decide)]; exact h7
  · rw [fL 63 (by decide) (by decide) (by decide)]; exact h8
  · rw [fL 63 (by decide) (by decide) (by decide)]; exact h9
  · rw [fL 63 (by decide) (by decide) (by decide)]; exact h10
  · rw [fL 65 (by decide) (by decide) (by decide), fL 66 (by decide) (by decide) (by decide)]; exact h11 p hp
  · rw [fL 62 (by decide) (by decide) (by decide)]; exact h12
  · rw [fL 62 (by decide) (by decide) (by decide)]; exact h13
/-- the lever at a slope, first one -/
theorem lever_c (h : seaC m o I J L) (hm : memK m o I L) {N : Nat} (ht : turK N I) {c : Int} (hc : -2048 ≤ c ∧ c ≤ 2048) : ∃ I' L', leF I I' L L' ∧ memK m o I' L' ∧ turK N I' ∧ (∀ k, k < 4097 → (I 71 k = I 60 6 ∨ k = (c + 2048).toNat) → I' 71 k = I' 60 6) ∧ jv (d + 3) 106 0 [some (.ref 60), some (.int (vI c)), none, none, none, none, none] [] (shC, I, L, pX pa pb pu pw) = some (some (.long (lvV m o c)), (shC, I', L', pX pa pb pu pw)) := by
  obtain ⟨i, hi, hi7⟩ : ∃ i : Nat, (i : Int) = c + 2048 ∧ i < 4097 := ⟨(c + 2048).toNat, by omega, by omega⟩
  have hic : (i : Int) - 2048 = c := by omega
  have hit : (c + 2048).toNat = i := by omega
  have e0 : vI c + 2048 = nI i := by rw [show (2048 : Int32) = vI 2048 from rfl, vI_add, nI_vI, hi]
  have ji : j_in (nI i) 4097 = true := j_in_nI hi7 (by decide)
  have ci : (nI i).toNatClampNeg = i := nI_clamp (by omega)
  rw [hit, B106_0, e0, if_neg (nI_pos (by omega)), B106_10, if_pos (show nI i < Int32.ofNat 4097 from nI_lt (b := 4097) hi7 (by decide)), B106_23, if_pos ji, ci]
  by_cases q : I 71 i = I 60 6
  · obtain ⟨m1, m2⟩ := hm i hi7 q
    rw [hic] at m1 m2
    exact ⟨I, L, leF.rfl' h.2.2.2.1, hm, ht, fun k _ hk => by rcases hk with z | z
                                                              · exact z
                                                              · rw [z]; exact q, by rw [if_pos q, if_pos ji, m1]⟩
  rw [if_neg q, B106_43, if_pos ji, if_pos ji, ci]
  generalize hI1 : j_up I 71 i (I 60 6) = I1
  generalize hL1 : j_up L 70 i (-9223372036854775808) = L1
  have fI1 : ∀ c, c ≠ 71 → I1 c = I c := fun c hc => by rw [← hI1, j_up_cell _ hc]
  have fL1 : ∀ c, c ≠ 70 → L1 c = L c := fun c hc => by rw [← hL1, j_up_cell _ hc]
  have f1 : leF I I1 L L1 := ⟨fun c _ c2 _ => fI1 c c2, fun q hq => by rw [fI1 82 (by decide)]; exact h.2.2.2.1 q hq, fun c _ _ c3 _ => fL1 c c3, fun j _ => by rw [fL1 60 (by decide)]⟩
  have e71 : ∀ k, I1 71 k = if k = i then I 60 6 else I 71 k := fun k => by rw [← hI1, j_up_own]
  have e70 : ∀ k, L1 70 k = if k = i then -9223372036854775808 else L 70 k := fun k => by rw [← hL1, j_up_own]
  have h1 := h.frl f1
  -- where the search ends: what is left to show
  have fin : ∀ (I' : Nat → Nat → Int32) (L' : Nat → Nat → Int64), (∀ c, c ≠ 69 → c ≠ 82 → I' c = I1 c) → nearK I' → (∀ k, k ≠ i → I' 69 k = I1 69 k) → (∀ c, c ≠ 60 → c ≠ 64 → c ≠ 70 → c ≠ 72 → L' c = L1 c) → (∀ j, j ≠ 8 → L' 60 j = L1 60 j) → (∀ k, k ≠ i → L' 70 k = L1 70 k) → L' 70 i = lvV m o c → (∀ b, tR m o c = some b → I' 69 i = vI b) → leF I I' L L' ∧ memK m o I' L' ∧ turK N I' ∧ (∀ k, k < 4097 → (I 71 k = I 60 6 ∨ k = i) → I' 71 k = I' 60 6) := by
    intro I' L' k1 k2 k3 k4 k5 k6 k7 k8
    refine ⟨f1.trans ⟨fun c c1 _ c3 => k1 c c1 c3, k2, k4, k5⟩, fun k hk hk2 => ?_, ⟨?_, fun k hk => ?_⟩, fun k hk hk2 => ?_⟩
    · by_cases w : k = i
      · subst w; rw [hic]; exact ⟨k7, k8⟩
      · rw [k1 71 (by decide) (by decide), e71, if_neg w, k1 60 (by decide) (by decide), fI1 60 (by decide)] at hk2
        rw [k6 k w, e70, if_neg w, k3 k w, fI1 69 (by decide)]
        exact hm k hk hk2
    · rw [k1 60 (by decide) (by decide), fI1 60 (by decide)]; exact ht.1
    · rw [k1 71 (by decide) (by decide), e71]
      by_cases w : k = i
      · rw [if_pos w, ht.1]; exact ⟨N, Nat.le_refl _, rfl⟩
      · rw [if_neg w]; exact ht.2 k hk
    · rw [k1 71 (by decide) (by decide), e71, k1 60 (by decide) (by decide), fI1 60 (by decide)]
      by_cases w : k = i
      · rw [if_pos w]
      · rw [if_neg w]; exact hk2.resolve_right w
  have finT : ∀ (I2 : Nat → Nat → Int32) (L2 : Nat → Nat → Int64), tiF I1 I2 L1 L2 → tR m o c = none → leF I I2 L L2 ∧ memK m o I2 L2 ∧ turK N I2 ∧ (∀ k, k < 4097 → (I 71 k = I 60 6 ∨ k = i) → I2 71 k = I2 60 6) := by
    intro I2 L2 t hn
    exact fin I2 L2 (fun c _ c2 => t.1 c c2) t.2.1 (fun k _ => by rw [t.1 69 (by decide)]) (fun c c1 c2 _ c4 => t.2.2.1 c c1 c2 c4) t.2.2.2 (fun k _ => by rw [t.2.2.1 70 (by decide) (by decide) (by decide)]) (by
      rw [t.2.2.1 70 (by decide) (by decide) (by decide), e70, if_pos rfl]
      unfold lvV
      rw [hn]) (fun b hb => by rw [hn] at hb; cases hb)
  have loop : ∀ (n k : Nat) (lo hi : Int) (I2 : Nat → Nat → Int32) (L2 : Nat → Nat → Int64) (o6 : Option Value), k + n = 13 → lo < hi → -2048 ≤ lo → hi ≤ 2048 → tiF I1 I2 L1 L2 → ∃ I3 L3 hi' k' p6, tiF I1 I3 L1 L3 ∧ jv (d + 3) 106 120 [some (.ref 60), some (.int (vI c)), some (.int (nI i)), some (.int (vI lo)), some (.int (vI hi)), some (.int (nI k)), o6] [] (shC, I2, L2, pX pa pb pu pw) = jv (d + 3) 106 181 [some (.ref 60), some (.int (vI c)), some (.int (nI i)), some (.int (vI (hvS (trP m o c) n lo hi))), some (.int hi'), some (.int k'), p6] [] (shC, I3, L3, pX pa pb pu pw) := by
    intro n
    induction n with
    | zero =>
      intro k lo hi I2 L2 o6 hk _ _ _ t
      refine ⟨I2, L2, vI hi, nI k, o6, t, ?_⟩
      rw [B106_120, if_neg (show ¬ nI k < 13 from nI_nlt (b := 13) (by omega) (by omega))]
      rfl
    | succ n ih =>
      intro k lo hi I2 L2 o6 hk hl h1' h2' t
      rw [B106_120, if_pos (show nI k < 13 from nI_lt (b := 13) (by omega) (by decide))]
      by_cases g : 1 < hi - lo
      case neg =>
        refine ⟨I2, L2, vI hi, nI k, o6, t, ?_⟩
        rw [vI_sub, if_neg (show ¬ (1 : Int32) < vI (hi - lo) from fun y => g ((vI_lt (a := 1) (by omega) (by omega) (by omega) (by omega)).mp y))]
        unfold hvS
        rw [if_neg g]
      obtain ⟨I3, L3, t1, t2, t3⟩ := tilt_c (d := d) (pa := pa) (pb := pb) (pu := pu) (pw := pw) (h1.fr t) (b := lo + (hi - lo) / 2) (c := c) (by omega) hc
      have t4 := turn_0 (d := d + 2) (pa := pa) (pb := pb) (pu := pu) (pw := pw) ((h1.fr t).fr t1) t2 (by omega)
      rw [if_pos (show (1 : Int32) < vI hi - vI lo by rw [vI_sub]; exact (vI_lt (a := 1) (by omega) (by omega) (by omega) (by omega)).mpr g), if_neg (show ¬ (2 : Int32) = 0 by decide), vI_half' g (by omega), jgo_some (d := d + 2) rfl t3]
      dsimp only [Option.toList_some, List.cons_append, List.nil_append]
      rw [B106_152, jgo_some (d := d + 2) rfl t4]
      dsimp only [Option.toList_some, List.cons_append, List.nil_append]
      rw [B106_160]
      unfold hvS
      rw [if_pos g]
      by_cases q : 0 < (tT m o (lo + (hi - lo) / 2) c).toInt
      · rw [if_pos ((lc0 _).mpr q), B106_175, nI_1, if_neg (show ¬ trP m o c (lo + (hi - lo) / 2) = true by unfold trP; simp; exact q)]
        exact ih (k + 1) lo _ I3 L3 _ (by omega) (by omega) h1' (by omega) (t.trans t1)
      · rw [if_neg (fun y => q ((lc0 _).mp y)), B106_175, nI_1, if_pos (show trP m o c (lo + (hi - lo) / 2) = true by unfold trP; simp; exact Int.not_lt.mp q)]
        exact ih (k + 1) _ hi I3 L3 _ (by omega) (by omega) (by omega) h2' (t.trans t1)
  have n1 : nearK I1 := f1.2.1
  obtain ⟨I2, L2, t1, t2, t3⟩ := tilt_c (d := d) (pa := pa) (pb := pb) (pu := pu) (pw := pw) h1 (b := -2048) (c := c) (by omega) hc
  have t4 := turn_0 (d := d + 2) (pa := pa) (pb := pb) (pu := pu) (pw := pw) (h1.fr t1) t2 (by omega)
  rw [B106_62, show (-2048 : Int32) = vI (-2048) from rfl, show (2048 : Int32) = vI 2048 from rfl, jgo_some (d := d + 2) rfl t3]
  dsimp only [Option.toList_some, List.cons_append, List.nil_append]
  rw [B106_77, jgo_some (d := d + 2) rfl t4]
  dsimp only [Option.toList_some, List.cons_append, List.nil_append]
  rw [B106_84]
  by_cases q1 : 0 < (tT m o (-2048) c).toInt
  · have hn : tR m o c = none := by unfold tR; rw [if_pos (Or.inl q1)]
    obtain ⟨g1, g2, g3, g4⟩ := finT I2 L2 t1 hn
    refine ⟨I2, L2, g1, g2, g3, g4, ?_⟩
    rw [if_pos ((lc0 _).mpr q1)]
    unfold lvV
    rw [hn]
  obtain ⟨I3, L3, u1, u2, u3⟩ := tilt_c (d := d) (pa := pa) (pb := pb) (pu := pu) (pw := pw) (h1.fr t1) (b := 2048) (c := c) (by omega) hc
  have u4 := turn_0 (d := d + 2) (pa := pa) (pb := pb) (pu := pu) (pw := pw) ((h1.fr t1).fr u1) u2 (by omega)
  rw [if_neg (fun y => q1 ((lc0 _).mp y)), jgo_some (d := d + 2) rfl u3]
  dsimp only [Option.toList_some, List.cons_append, List.nil_append]
  rw [B106_100, jgo_some (d := d + 2) rfl u4]
  dsimp only [Option.toList_some, List.cons_append, List.nil_append]
  rw [B106_108]
  by_cases q2 : 0 < (tT m o 2048 c).toInt
  case neg =>
    have hn : tR m o c = none := by unfold tR; rw [if_pos (Or.inr (Int.not_lt.mp q2))]
    obtain ⟨g1, g2, g3, g4⟩ := finT I3 L3 (t1.trans u1) hn
    refine ⟨I3, L3, g1, g2, g3, g4, ?_⟩
    rw [if_neg (fun y => q2 ((lc0 _).mp y))]
    unfold lvV
    rw [hn]
  have hs : tR m o c = some (hvS (trP m o c) 13 (-2048) 2048) := by unfold tR; rw [if_neg (by omega)]
  rw [if_pos ((lc0 _).mpr q2)]
  obtain ⟨I4, L4, hi', k', p6, v1, v2⟩ := loop 13 0 (-2048) 2048 I3 L3 none (by omega) (by omega) (by omega) (by omega) (t1.trans u1)
  have bb := tR_b hs
  generalize hvS (trP m o c) 13 (-2048) 2048 = b at *
  rw [show (0 : Int32) = nI 0 from rfl, v2]
  obtain ⟨I5, L5, w1, w2, w3⟩ := tilt_c (d := d) (pa := pa) (pb := pb) (pu := pu) (pw := pw) (h1.fr v1) (b := b) (c := c) (by omega) hc
  have w4 := v1.trans w1
  have h5 := h1.fr w4
  generalize hI6 : j_up I5 69 i (vI b) = I6
  have fI6 : ∀ c, c ≠ 69 → I6 c = I5 c := fun c hc => by rw [← hI6, j_up_cell _ hc]
  have f6 : leF I5 I6 L5 L5 := ⟨fun c c1 _ _ => fI6 c c1, fun q hq => by rw [fI6 82 (by decide)]; exact w4.2.1 q hq, fun _ _ _ _ _ => rfl, fun _ _ => rfl⟩
  have w5 := turn_1 (d := d + 2) (pa := pa) (pb := pb) (pu := pu) (pw := pw) (h5.frl f6) w2 hc
  have lv : lvV m o c = tU m o b c := by unfold lvV; rw [hs]
  have g := fin I6 (j_up L5 70 i (tU m o b c)) (fun c c1 c2 => by rw [fI6 c c1, w4.1 c c2]) f6.2.1 (fun k hk => by rw [← hI6, j_up_own, if_neg hk, w4.1 69 (by decide)]) (fun c c1 c2 c3 c4 => by rw [j_up_cell _ c3, w4.2.2.1 c c1 c2 c4]) (fun j hj => by rw [j_up_cell _ (by decide), w4.2.2.2 j hj]) (fun k hk => by rw [j_up_own, if_neg hk, w4.2.2.1 70 (by decide) (by decide) (by decide)]) (by rw [j_up_eq, lv]) (fun b' hb' => by
    have e := Option.some.inj (hs.symm.trans hb')
    rw [← hI6, j_up_eq, e])
  refine ⟨I6, j_up L5 70 i (tU m o b c), g.1, g.2.1, g.2.2.1, g.2.2.2, ?_⟩
  · rw [B106_181, jgo_some (d := d + 2) rfl w3]
    dsimp only [Option.toList_some, List.cons_append, List.nil_append]
    rw [B106_187, if_pos ji, ci, hI6, jgo_some (d := d + 2) rfl w5]
    dsimp only [Option.toList_some, List.cons_append, List.nil_append]
    rw [B106_206, if_pos ji, if_pos ji, ci, j_up_eq, lv]
/-- a lever beside a side -/
theorem lvV_s (h : seaC m o I J L) (hW : WT m o < VW m o 0 200000 0 0) {c : Int} (hc : -2048 ≤ c ∧ c ≤ 2048) : (lvV m o c = -9223372036854775808 ↔ sD m o c = none) ∧ (sD m o c = some true ↔ (¬ lvV m o c = -9223372036854775808 ∧ 0 < (lvV m o c).toInt)) := by
  unfold lvV sD
  cases ht : tR m o c with
  | none => simp
  | some b =>
    have hb := tR_b ht
    obtain ⟨L', -, -, -, -, hl⟩ := seal_c (d := 0) (pa := none) (pb := none) (pu := none) (pw := none) h (b := b) (c := c) (by omega) hc
    obtain ⟨⟨h1, h2, h3, h4⟩, -⟩ := id h
    have nb := tU_b h1 h2 h3 hW (b := b) (c := c) (by omega) hc hl (fun k hk => by
      obtain ⟨y1, y2⟩ := h1.w3 hk
      exact ⟨y1, y2⟩) (by
      obtain ⟨k, k1, k2⟩ := ok_m (h1.2.2.1 1 (by omega)) (a := 0) (b := 0) (c := 1) (N := 500) (by decide) (by decide) (by decide) rfl (by intro v hv; show v < 1; exact Int32.lt_trans hv (by decide)) rfl
      rw [mv_n k2 (by omega)]; omega)
    simp only [nb, not_false_eq_true, true_and, Option.some.injEq, decide_eq_true_eq, reduceCtorEq]
end SEBF
