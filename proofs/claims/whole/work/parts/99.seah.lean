/-! SEA: Hull.level -/
section SEAH
variable {d : Nat} {I : Nat → Nat → Int32} {L : Nat → Nat → Int64} {pa pb pu pw : Option Nat} {lo hi : Nat → Int} {sF sT cF cT : Nat → Nat} {fl rf bt : Nat → Int}
theorem mod3 : ∀ i : Nat, i < 66 → (nI i - nI i / 3 * 3 < 2 ↔ i % 3 < 2) := by decide +kernel
theorem vI_half {w : Int} (h0 : 0 ≤ w) (h1 : w < 2147483647) : vI w / 2 = vI (w / 2) := by
  apply Int32.toInt_inj.mp
  rw [Int32.toInt_div, vI_i (by omega) (by omega), vI_i (by omega) (by omega), show (2 : Int32).toInt = 2 from rfl, Int.tdiv_eq_ediv_of_nonneg h0]
  exact Int.bmod_eq_of_le (by omega) (by omega)
theorem x32' {x : Int64} (h1 : -2147483648 ≤ x.toInt) (h2 : x.toInt < 2147483648) : x.toInt32 = vI x.toInt := by
  apply Int32.toInt_inj.mp
  rw [Int64.toInt_toInt32, vI_i h1 h2]
  exact Int.bmod_eq_of_le (by omega) (by omega)
theorem level_c (hD : hlD I lo hi sF sT cF cT fl rf bt) {b c : Int} (hb : -2048 ≤ b ∧ b ≤ 2048) (hc : -2048 ≤ c ∧ c ≤ 2048) {l1 : Int32} {sb : Nat → Bool} (hset : ∀ q, q < 17 → (((l1 >>> (nI q &&& 31)) &&& 1) = 0 ↔ sb q = false)) {M R : Int → Int} (hM : ∀ a, M a = wMA sb lo hi sF sT cF cT fl rf bt a b c 17) (hR : ∀ a, R a = wMR sb lo hi sF sT cF cT fl rf bt a b c 17) {most : Int} (hmb : ∀ a, -200001 ≤ a → a ≤ 200001 → -4000000000000000 ≤ M a ∧ M a ≤ 4000000000000000) (hrb : ∀ a, -200001 ≤ a → a ≤ 200001 → -4000000000000000 ≤ R a ∧ R a ≤ 4000000000000000) (hmo : 0 ≤ most ∧ most ≤ 4000000000000000) (h0 : M (-100000) ≤ most) {q : Nat} (hq : q < 17) {nr : Int} (hn : I 82 q = vI nr) (hn1 : -100000 ≤ nr) (hn2 : nr ≤ 200000) : ∃ be L', jv (d + 1) 34 0 [some (.ref 72), some (.int l1), some (.int (nI q)), some (.long (lI most)), none, some (.int (vI b)), some (.int (vI c)), none, none, none, none, none, none] [] (shC, I, L, pX pa pb pu pw) = some (some (.int (vI be)), (shC, j_up I 82 q (vI be), L', pX pa pb pu pw)) ∧ lvI M most be (be + 1) ∧ (L' = L ∨ ∃ x y, L' = meL L x y) := by
  have hRM : ∀ a, R a = M (a + 1) - M a := fun a => by rw [hR, hM, hM]; exact wMA_step _ _ _ _ _
  have jq : j_in (nI q) 17 = true := j_in_nI hq (by decide)
  have cq : (nI q).toNatClampNeg = q := nI_clamp (by omega)
  have loop : ∀ r i (be ab at_ : Int) (L1 : Nat → Nat → Int64) (o11 o12 : Option Value), i + r = 66 → lvI M most be ab → (1 < ab - be → be ≤ at_ ∧ at_ < ab) → (ab - be - 1) * 2 ^ ((i - 1) / 3) ≤ 300000 → (1 < ab - be → 0 < i → i % 3 = 0 → at_ = be + (ab - be) / 2) → (L1 = L ∨ ∃ x y, L1 = meL L x y) → ∃ be' L', jv (d + 1) 34 19 [some (.ref 72), some (.int l1), some (.int (nI q)), some (.long (lI most)), none, some (.int (vI b)), some (.int (vI c)), some (.int (vI be)), some (.int (vI ab)), some (.int (vI at_)), some (.int (nI i)), o11, o12] [] (shC, I, L1, pX pa pb pu pw) = some (some (.int (vI be')), (shC, j_up I 82 q (vI be'), L', pX pa pb pu pw)) ∧ lvI M most be' (be' + 1) ∧ (L' = L ∨ ∃ x y, L' = meL L x y) := by
    intro r
    induction r with
    | zero =>
      intro i be ab at_ L1 o11 o12 hi hv hat hw hmid hL
      obtain rfl : i = 66 := by omega
      obtain ⟨v1, v2, v3, v4, v5⟩ := id hv
      have w1 : ab = be + 1 := by
        have hw : (ab - be - 1) * 2097152 ≤ 300000 := hw
        omega
      refine ⟨be, L1, ?_, by rw [← w1]; exact hv, hL⟩
      rw [B34_19, if_neg (show ¬ nI 66 < (66 : Int32) by decide), B34_182, if_pos jq, cq]
    | succ r ih =>
      intro i be ab at_ L1 o11 o12 hi hv hat hw hmid hL
      obtain ⟨v1, v2, v3, v4, v5⟩ := id hv
      have i66 : i < 66 := by omega
      rw [B34_19, if_pos (show nI i < (66 : Int32) from nI_lt (b := 66) i66 (by decide)), vI_sub]
      by_cases g : 1 < ab - be
      case neg =>
        have w1 : ab = be + 1 := by omega
        refine ⟨be, L1, ?_, by rw [← w1]; exact hv, hL⟩
        rw [if_neg (show ¬ (1 : Int32) < vI (ab - be) from fun w => g ((vI_lt (a := 1) (by omega) (by omega) (by omega) (by omega)).mp w)), B34_182, if_pos jq, cq]
      have ha := hat g
      have m1 := measure_c (d := d) (L := L1) (pa := pa) (pb := pb) (pu := pu) (pw := pw) hD (a := at_) ⟨by omega, by omega⟩ hb hc hset
      rw [← hM, ← hR] at m1
      have mb := hmb at_ (by omega) (by omega)
      have rb := hrb at_ (by omega) (by omega)
      have L10 : meL L1 (M at_) (R at_) 72 10 = lI (M at_) := meL_10 _ _
      have L11 : meL L1 (M at_) (R at_) 72 11 = lI (R at_) := meL_11 _ _
      obtain ⟨be', ab', st, hv', hwl⟩ := lv_step hRM hv ha.1 ha.2
      obtain ⟨u1, u2, u3, u4, u5⟩ := id hv'
      have hL' : meL L1 (M at_) (R at_) = L ∨ ∃ x y, meL L1 (M at_) (R at_) = meL L x y := by
        rcases hL with rfl | ⟨x, y, rfl⟩
        · exact Or.inr ⟨_, _, rfl⟩
        · exact Or.inr ⟨_, _, meL_meL _ _ _ _⟩
      -- what comes behind the try
      have nxt : ∃ at', (1 < ab' - be' → be' ≤ at' ∧ at' < ab') ∧ (1 < ab' - be' → 0 < i + 1 → (i + 1) % 3 = 0 → at' = be' + (ab' - be') / 2) ∧ ∃ p11 p12, jv (d + 1) 34 91 [some (.ref 72), some (.int l1), some (.int (nI q)), some (.long (lI most)), none, some (.int (vI b)), some (.int (vI c)), some (.int (vI be')), some (.int (vI ab')), some (.int (vI at_)), some (.int (nI i)), o11, o12] [] (shC, I, meL L1 (M at_) (R at_), pX pa pb pu pw) = jv (d + 1) 34 19 [some (.ref 72), some (.int l1), some (.int (nI q)), some (.long (lI most)), none, some (.int (vI b)), some (.int (vI c)), some (.int (vI be')), some (.int (vI ab')), some (.int (vI at')), some (.int (nI (i + 1))), p11, p12] [] (shC, I, meL L1 (M at_) (R at_), pX pa pb pu pw) := by
        have at137 : ∀ x : Int64, ∃ p11 p12, jv (d + 1) 34 137 [some (.ref 72), some (.int l1), some (.int (nI q)), some (.long (lI most)), none, some (.int (vI b)), some (.int (vI c)), some (.int (vI be')), some (.int (vI ab')), some (.int (vI at_)), some (.int (nI i)), o11, o12] [.long x] (shC, I, meL L1 (M at_) (R at_), pX pa pb pu pw) = jv (d + 1) 34 19 [some (.ref 72), some (.int l1), some (.int (nI q)), some (.long (lI most)), none, some (.int (vI b)), some (.int (vI c)), some (.int (vI be')), some (.int (vI ab')), some (.int (vI (lvN be' ab' x.toInt))), some (.int (nI (i + 1))), p11, p12] [] (shC, I, meL L1 (M at_) (R at_), pX pa pb pu pw) := by
          intro x
          have bb : (vI be').toInt64.toInt = be' := by rw [i64_i, vI_i (by omega) (by omega)]
          have ab2 : (vI ab').toInt64.toInt = ab' := by rw [i64_i, vI_i (by omega) (by omega)]
          refine ⟨some (.long x), none, ?_⟩
          rw [B34_137]
          unfold lvN
          by_cases z1 : x.toInt ≤ be'
          · rw [if_neg (fun y => by have := (lcmp_pos _ _).mp y; rw [bb] at this; omega), if_pos z1, B34_174, show (1 : Int32) = vI 1 from rfl, vI_add, show nI i + vI 1 = nI (i + 1) from nI_add i 1]
          · rw [if_pos ((lcmp_pos _ _).mpr (by rw [bb]; omega)), if_neg z1]
            by_cases z2 : ab' ≤ x.toInt
            · rw [if_neg (fun y => by have := (lcmp_neg _ _).mp y; rw [ab2] at this; omega), if_pos z2, B34_174, show (1 : Int32) = vI 1 from rfl, vI_sub, show nI i + vI 1 = nI (i + 1) from nI_add i 1]
            · rw [if_pos ((lcmp_neg _ _).mpr (by rw [ab2]; omega)), if_neg z2, B34_174, x32' (by omega) (by omega), show nI i + 1 = nI (i + 1) from nI_add i 1]
        have mid : ∃ p11 p12, jv (d + 1) 34 126 [some (.ref 72), some (.int l1), some (.int (nI q)), some (.long (lI most)), none, some (.int (vI b)), some (.int (vI c)), some (.int (vI be')), some (.int (vI ab')), some (.int (vI at_)), some (.int (nI i)), o11, o12] [] (shC, I, meL L1 (M at_) (R at_), pX pa pb pu pw) = jv (d + 1) 34 19 [some (.ref 72), some (.int l1), some (.int (nI q)), some (.long (lI most)), none, some (.int (vI b)), some (.int (vI c)), some (.int (vI be')), some (.int (vI ab')), some (.int (vI (lvN be' ab' (be' + (ab' - be') / 2)))), some (.int (nI (i + 1))), p11, p12] [] (shC, I, meL L1 (M at_) (R at_), pX pa pb pu pw) := by
          have x1 := at137 (vI be' + (vI ab' - vI be') / 2).toInt64
          have e : (vI be' + (vI ab' - vI be') / 2).toInt64.toInt = be' + (ab' - be') / 2 := by
            rw [i64_i, vI_sub, vI_half (by omega) (by omega), vI_add, vI_i (by omega) (by omega)]
          rw [e] at x1
          rw [B34_126, if_neg (by decide)]
          exact x1
        rw [B34_91, L10, L11]
        have inb : ∀ x, (1 < ab' - be' → be' ≤ lvN be' ab' x ∧ lvN be' ab' x < ab') := fun x y => ⟨Int.le_of_lt (lvN_b y).1, (lvN_b y).2⟩
        by_cases z : (0 : Int32) < lg_cmp (lI (R at_)) 0
        · rw [if_pos z, if_neg (show ¬ (3 : Int32) = 0 by decide)]
          by_cases y : i % 3 < 2
          · have nz : ¬ lI (R at_) = 0 := fun w => by rw [w] at z; exact absurd z (by decide)
            obtain ⟨p11, p12, e⟩ := at137 ((vI at_).toInt64 + ((lI most - lI (M at_)) / lI (R at_)))
            rw [if_pos ((mod3 i i66).mpr y), if_neg nz]
            exact ⟨_, inb _, fun _ _ w => by omega, p11, p12, e⟩
          · obtain ⟨p11, p12, e⟩ := mid
            rw [if_neg (fun w => y ((mod3 i i66).mp w))]
            exact ⟨_, inb _, fun w _ _ => lvN_m w, p11, p12, e⟩
        · obtain ⟨p11, p12, e⟩ := mid
          rw [if_neg z]
          exact ⟨_, inb _, fun w _ _ => lvN_m w, p11, p12, e⟩
      obtain ⟨at', n1, n2, p11, p12, n3⟩ := nxt
      have wid : (ab' - be' - 1) * 2 ^ ((i + 1 - 1) / 3) ≤ 300000 := by
        rw [Nat.add_sub_cancel]
        by_cases y : 0 < i ∧ i % 3 = 0
        · have hm := hmid g y.1 y.2
          have hh := lv_half (R := R) hm g st
          rw [show i / 3 = (i - 1) / 3 + 1 by omega, Int.pow_succ]
          have pp : (0 : Int) ≤ 2 ^ ((i - 1) / 3) := Int.le_of_lt (Int.pow_pos (show (0 : Int) < 2 by decide))
          generalize (2 : Int) ^ ((i - 1) / 3) = P at hw pp
          have hP : (ab' - be' - 1) * 2 ≤ ab - be - 1 := by omega
          have := Int.mul_le_mul_of_nonneg_right hP pp
          rw [Int.mul_comm P 2, ← Int.mul_assoc]
          omega
        · rw [show i / 3 = (i - 1) / 3 by omega]
          have pp : (0 : Int) ≤ 2 ^ ((i - 1) / 3) := Int.le_of_lt (Int.pow_pos (show (0 : Int) < 2 by decide))
          have hP : (ab' - be' - 1) ≤ ab - be - 1 := by omega
          have := Int.mul_le_mul_of_nonneg_right hP pp
          omega
      obtain ⟨be2, L2, k1, k2, k3⟩ := ih (i + 1) be' ab' at' _ p11 p12 (by omega) hv' n1 wid n2 hL'
      refine ⟨be2, L2, ?_, k2, k3⟩
      rw [if_pos (show (1 : Int32) < vI (ab - be) from (vI_lt (a := 1) (by omega) (by omega) (by omega) (by omega)).mpr g), jgo_some (d := d) rfl m1]
      dsimp only [Option.toList_some, Option.toList_none, List.cons_append, List.nil_append]
      rw [B34_46, L10, L11]
      have cm : (0 : Int32) < lg_cmp (lI (M at_)) (lI most) ↔ most < M at_ := by
        rw [lcmp_pos, lI_toInt (by omega) (by omega), lI_toInt (by omega) (by omega)]
      have cm2 : (0 : Int32) < lg_cmp (lI (M at_) + lI (R at_)) (lI most) ↔ most < M at_ + R at_ := by
        rw [lI_add, lcmp_pos, lI_toInt (by omega) (by omega), lI_toInt (by omega) (by omega)]
      rcases st with ⟨s1, rfl, rfl⟩ | ⟨s1, rfl, s3⟩
      · rw [if_pos (cm.mpr s1)]
        exact n3.trans k1
      · rw [if_neg (fun y => s1 (cm.mp y))]
        by_cases s4 : most < M be' + R be'
        · rw [if_pos s4] at s3
          subst s3
          rw [if_pos (cm2.mpr s4), B34_89, show (1 : Int32) = vI 1 from rfl, vI_add]
          exact n3.trans k1
        · rw [if_neg s4] at s3
          subst s3
          rw [if_neg (fun y => s4 (cm2.mp y)), B34_89]
          exact n3.trans k1
  rw [B34_0, if_pos jq, cq, hn]
  exact loop 66 0 (-100000) 200001 nr L none none rfl ⟨by omega, by omega, by omega, h0, Or.inl rfl⟩ (fun _ => ⟨hn1, by omega⟩) (by decide) (fun _ z => absurd z (by decide)) (Or.inl rfl)
end SEAH
