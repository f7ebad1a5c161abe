/-! ROWS: tasks -/
section ROWH
variable {d e : Nat} {I J : Nat → Nat → Int32} {L L' : Nat → Nat → Int64} {pa pb pu pw : Option Nat} {m : Nat → Int32}
theorem sh1_bit : ∀ u, u < 7 → ∀ i, i < 32 → ((1 : Int32) <<< (nI u &&& 31)).toBitVec.getLsbD i = decide (i = u) := by decide +kernel
theorem neg1_bit : ∀ i, i < 32 → (-1 : Int32).toBitVec.getLsbD i = true := by decide +kernel
theorem i_eq0 (x : Int32) : x = 0 ↔ ∀ i, i < 32 → x.toBitVec.getLsbD i = false := by
  constructor
  · intro h i _
    rw [h]
    show (0#32).getLsbD i = false
    simp
  · intro h
    apply Int32.toBitVec_inj.mp
    apply BitVec.eq_of_getLsbD_eq
    intro i hi
    rw [h i hi]
    show false = (0#32).getLsbD i
    simp
theorem mT.task (h : mT m I J) {k : Nat} (hk : k < 7) : (∃ x, x ≤ 20 ∧ m (844 + k * 5) = nI x) ∧ ∃ y, y ≤ 127 ∧ m (848 + k * 5) = nI y := ⟨ok_n (h.2.2.1 (844 + k * 5) (by omega)) (a := 10) (b := k) (c := 0) (by decide) hk (by decide) (show 844 + k * 5 = 844 + k * 5 + 0 by omega) (by decide) (by decide) (by decide), ok_n (h.2.2.1 (848 + k * 5) (by omega)) (a := 10) (b := k) (c := 4) (by decide) hk (by decide) (show 848 + k * 5 = 844 + k * 5 + 4 by omega) (by decide) (by decide) (by decide)⟩
theorem mT.day (h : mT m I J) {k : Nat} (hk : k < 7) : m (844 + k * 5) = 0 ↔ ¬ 0 < m (844 + k * 5) := by
  obtain ⟨x, x1, x2⟩ := (h.task hk).1
  rw [x2]
  by_cases q : x = 0
  · subst q; decide
  · constructor
    · intro z; exact absurd z (nI_ne0 (by omega) (by omega))
    · intro z; exact absurd (nI_lt (a := 0) (by omega) (by omega)) z
/-- the tasks with days -/
def thB (m : Nat → Int32) (n : Nat) (t : Int32) : Prop := ∀ i, i < 32 → (t.toBitVec.getLsbD i = true ↔ i < n ∧ 0 < m (844 + i * 5))
theorem days_c (h : mT m I J) : ∃ t, thB m 7 t ∧ jv (d + 1) 366 0 [some (.ref 3), none, none] [] (shC, I, L, pX pa pb pu pw) = some (some (.int t), (shC, I, L, pX pa pb pu pw)) := by
  obtain ⟨t, a1, a2⟩ := j_runP (α := Int32) (fun i t => jv (d + 1) 366 4 [some (.ref 3), some (.int t), some (.int (nI i))] [] (shC, I, L, pX pa pb pu pw)) (fun i t => thB m i t) 7 (fun i hi t ht => by
    try dsimp only
    rw [B366_4_o3, if_pos (by decide), if_pos (show nI i < (z_0.getD (10 : Int32).toNatClampNeg 0) from nI_lt (b := 7) hi (by decide)), g_of3_10_0 hi, h.1 _ (by omega)]
    dsimp only [Option.toList_some, List.cons_append, List.nil_append]
    rw [B366_23_o3]
    by_cases q : 0 < m (844 + i * 5)
    · rw [if_pos q, B366_33_o3, nI_1]
      refine ⟨_, fun k hk => ?_, rfl⟩
      rw [Int32.toBitVec_or, BitVec.getLsbD_or, sh1_bit i hi k hk, Bool.or_eq_true, ht k hk, decide_eq_true_eq]
      constructor
      · rintro (⟨z1, z2⟩ | z)
        · exact ⟨by omega, z2⟩
        · subst z; exact ⟨by omega, q⟩
      · rintro ⟨z1, z2⟩
        by_cases w : k = i
        · exact Or.inr w
        · exact Or.inl ⟨by omega, z2⟩
    · rw [if_neg q, B366_33_o3, nI_1]
      refine ⟨_, fun k hk => ?_, rfl⟩
      rw [Int32.toBitVec_or, BitVec.getLsbD_or, (i_eq0 0).mp rfl k hk, Bool.or_false, ht k hk]
      constructor
      · rintro ⟨z1, z2⟩
        exact ⟨by omega, z2⟩
      · rintro ⟨z1, z2⟩
        refine ⟨?_, z2⟩
        by_cases w : k = i
        · subst w; exact absurd z2 q
        · omega) 0 (fun i hi => ⟨fun z => (by rw [(i_eq0 0).mp rfl i hi] at z; cases z), fun z => absurd z.1 (Nat.not_lt_zero _)⟩)
  refine ⟨t, a1, ?_⟩
  rw [B366_0_o3]
  refine (show _ = _ from a2).trans ?_
  rw [B366_4_o3, if_pos (by decide), if_neg (by decide)]
/-- one task's bits, one round more -/
theorem tk_in (h : mT m I J) {th : Int32} (ht : thB m 7 th) (l1 l4 : Int32) (l2' : Int32) (x : Int32) : ∃ y, jv (d + 1) 68 51 [some (.ref 3), some (.int l1), some (.int th), some (.int x), some (.int l4), some (.int (nI 0))] [] (shC, I, L, pX pa pb pu pw) = jv (d + 1) 68 37 [some (.ref 3), some (.int l1), some (.int th), some (.int y), some (.int (l4 + 1)), some (.int (nI 7))] [] (shC, I, L, pX pa pb pu pw) ∧ jv (e + 1) 246 66 [some (.ref 0), some (.ref 7), some (.int l2'), some (.int x), some (.int l4), some (.int (nI 0))] [] (shR, J, L', pR) = jv (e + 1) 246 56 [some (.ref 0), some (.ref 7), some (.int l2'), some (.int y), some (.int (l4 + 1)), some (.int (nI 7))] [] (shR, J, L', pR) := by
  obtain ⟨y, -, a1, a2⟩ := j_run2 (α := Int32) (fun i x => jv (d + 1) 68 51 [some (.ref 3), some (.int l1), some (.int th), some (.int x), some (.int l4), some (.int (nI i))] [] (shC, I, L, pX pa pb pu pw)) (fun i x => jv (e + 1) 246 66 [some (.ref 0), some (.ref 7), some (.int l2'), some (.int x), some (.int l4), some (.int (nI i))] [] (shR, J, L', pR)) (fun _ _ => True) 7 (fun i hi x _ => by
    try dsimp only
    have g4 : ∀ K, jgo jTT jMM (e + 1) 214 [.ref 0, .int 10, .int (nI i), .int 4] (shR, J, L', pR) K = K (some (.int (nI (848 + i * 5)))) (shR, J, L', pR) := fun K => g_at_10_4 h.2.2.2 i
    have xb : ((x >>> (nI i &&& 31)) &&& 1 = 1) ↔ x.toBitVec.getLsbD i = true := by
      have h0 := i_shr x (u := i) (by omega)
      rw [i_and1] at h0
      rw [i_and1t]
      cases w : x.toBitVec.getLsbD i
      · rw [h0.mpr w]
      · cases w2 : (x >>> (nI i &&& 31)).toBitVec.getLsbD 0
        · rw [h0.mp w2] at w; cases w
        · exact Iff.rfl
    have cb : ((x &&& th) &&& ((1 : Int32) <<< (nI i &&& 31)) = 0) ↔ ¬ (x.toBitVec.getLsbD i = true ∧ 0 < m (844 + i * 5)) := by
      rw [i_eq0]
      constructor
      · rintro z ⟨z1, z2⟩
        have := z i (by omega)
        rw [Int32.toBitVec_and, BitVec.getLsbD_and, Int32.toBitVec_and, BitVec.getLsbD_and, sh1_bit i hi i (by omega), z1, (ht i (by omega)).mpr ⟨hi, z2⟩] at this
        simp at this
      · intro z k hk
        rw [Int32.toBitVec_and, BitVec.getLsbD_and, Int32.toBitVec_and, BitVec.getLsbD_and, sh1_bit i hi k hk]
        by_cases w : k = i
        · subst w
          cases w1 : x.toBitVec.getLsbD k
          · simp
          · cases w2 : th.toBitVec.getLsbD k
            · simp
            · exact absurd ⟨w1, ((ht k hk).mp w2).2⟩ z
        · simp [w]
    rw [B68_51_o3, if_pos (by decide), if_pos (show nI i < (z_0.getD (10 : Int32).toNatClampNeg 0) from nI_lt (b := 7) hi (by decide)), B246_66_a7, if_pos (show nI i < 7 from nI_lt (b := 7) hi (by decide))]
    by_cases w1 : x.toBitVec.getLsbD i = true
    · rw [if_pos (xb.mpr w1), g_at_10_0 h.2.2.2]
      dsimp only [Option.toList_some, List.cons_append, List.nil_append]
      rw [B246_94_a7, if_pos (j_in_nI (by omega) (by decide)), nI_clamp (n := 844 + i * 5) (by omega), h.2.1 _ (by omega)]
      by_cases w2 : 0 < m (844 + i * 5)
      · rw [if_neg (fun z => cb.mp z ⟨w1, w2⟩), g_of3_10_4 hi, h.1 _ (by omega), if_pos w2, g4]
        dsimp only [Option.toList_some, List.cons_append, List.nil_append]
        rw [B68_83_o3, B68_87_o3, B246_108_a7, if_pos (j_in_nI (by omega) (by decide)), nI_clamp (n := 848 + i * 5) (by omega), h.2.1 _ (by omega), B246_113_a7, nI_1]
        exact ⟨_, trivial, rfl, rfl⟩
      · rw [if_pos (cb.mpr (fun z => w2 z.2)), if_neg w2, B68_87_o3, B246_112_a7, B246_113_a7, nI_1]
        exact ⟨_, trivial, rfl, rfl⟩
    · rw [if_neg (fun z => w1 (xb.mp z)), if_pos (cb.mpr (fun z => w1 z.1)), B68_87_o3, B246_112_a7, B246_113_a7, nI_1]
      exact ⟨_, trivial, rfl, rfl⟩) x trivial
  refine ⟨y, (show _ = _ from a1).trans ?_, (show _ = _ from a2).trans ?_⟩
  · rw [B68_51_o3, if_pos (by decide), if_neg (by decide)]
  · rw [B246_66_a7, if_neg (by decide)]
theorem row_10 (h : mT m I J) {k : Nat} (hk : k < 7) : ∃ b, rwB d e I J L L' pa pb pu pw 10 k b := by
  obtain ⟨th, ht, hd⟩ := days_c (d := d + 2) (L := L) (pa := pa) (pb := pb) (pu := pu) (pw := pw) h
  obtain ⟨y, y1, y2⟩ := (h.task hk).2
  have hy7 : ∀ i, i < 32 → 7 ≤ i → (m (848 + k * 5)).toBitVec.getLsbD i = false := by
    intro i hi h7
    rw [y2, nI_bv, BitVec.getLsbD_ofNat, Nat.testBit_lt_two_pow (Nat.lt_of_lt_of_le (show y < 2 ^ 7 by omega) (Nat.pow_le_pow_right (by decide) h7)), Bool.and_false]
  have thk : ((th >>> (nI k &&& 31)) &&& 1 = 0) ↔ m (844 + k * 5) = 0 := by
    rw [i_shr th (by omega), h.day hk]
    have := ht k (by omega)
    constructor
    · intro z w
      rw [this.mpr ⟨hk, w⟩] at z; cases z
    · intro z
      cases w : th.toBitVec.getLsbD k
      · rfl
      · exact absurd (this.mp w).2 z
  have sub : (m (848 + k * 5) &&& (th ^^^ (-1)) = 0) ↔ ∀ i, i < 7 → (m (848 + k * 5)).toBitVec.getLsbD i = true → ¬ m (844 + i * 5) = 0 := by
    rw [i_eq0]
    constructor
    · intro z i hi w
      have z1 := z i (by omega)
      rw [Int32.toBitVec_and, BitVec.getLsbD_and, Int32.toBitVec_xor, BitVec.getLsbD_xor, neg1_bit i (by omega), w] at z1
      rw [h.day hi]
      intro z2
      cases w2 : th.toBitVec.getLsbD i
      · rw [w2] at z1; simp at z1
      · exact z2 ((ht i (by omega)).mp w2).2
    · intro z i hi
      rw [Int32.toBitVec_and, BitVec.getLsbD_and, Int32.toBitVec_xor, BitVec.getLsbD_xor, neg1_bit i hi]
      by_cases h7 : i < 7
      · cases w : (m (848 + k * 5)).toBitVec.getLsbD i
        · simp
        · have := z i h7 w
          rw [h.day h7] at this
          have := (ht i hi).mpr ⟨h7, Classical.byContradiction this⟩
          rw [this]
          simp
      · rw [hy7 i hi (by omega)]
        simp
  -- the reference's first loop
  have first : ∀ (r i : Nat) (o5 : Option Value), i + r = 7 → (∀ j, j < i → (m (848 + k * 5)).toBitVec.getLsbD j = true → ¬ m (844 + j * 5) = 0) → jv (e + 4) 246 14 [some (.ref 0), some (.ref 7), some (.int (nI k)), some (.int (m (848 + k * 5))), some (.int (nI i)), o5] [] (shR, J, L', pR) = if m (848 + k * 5) &&& (th ^^^ (-1)) = 0 then jv (e + 4) 246 56 [some (.ref 0), some (.ref 7), some (.int (nI k)), some (.int (m (848 + k * 5))), some (.int 0), o5] [] (shR, J, L', pR) else some (some (.int 0), (shR, J, L', pR)) := by
    intro r
    induction r with
    | zero =>
      intro i o5 hi hl
      rw [if_pos (sub.mpr (fun j hj => hl j (by omega))), B246_14_a7, if_neg (show ¬ nI i < 7 from nI_nlt (b := 7) (by omega) (by omega))]
    | succ r ih =>
      intro i o5 hi hl
      have xb : ((m (848 + k * 5) >>> (nI i &&& 31)) &&& 1 = 1) ↔ (m (848 + k * 5)).toBitVec.getLsbD i = true := by
        have h0 := i_shr (m (848 + k * 5)) (u := i) (by omega)
        rw [i_and1] at h0
        rw [i_and1t]
        cases w : (m (848 + k * 5)).toBitVec.getLsbD i
        · rw [h0.mpr w]
        · cases w2 : (m (848 + k * 5) >>> (nI i &&& 31)).toBitVec.getLsbD 0
          · rw [h0.mp w2] at w; cases w
          · exact Iff.rfl
      rw [B246_14_a7, if_pos (show nI i < 7 from nI_lt (b := 7) (by omega) (by decide))]
      by_cases w1 : (m (848 + k * 5)).toBitVec.getLsbD i = true
      · rw [if_pos (xb.mpr w1), g_at_10_0 h.2.2.2]
        dsimp only [Option.toList_some, List.cons_append, List.nil_append]
        rw [B246_41_a7, if_pos (j_in_nI (by omega) (by decide)), nI_clamp (n := 844 + i * 5) (by omega), h.2.1 (844 + i * 5) (by omega)]
        by_cases w2 : m (844 + i * 5) = 0
        · rw [if_pos w2, if_pos bl_0, if_neg (fun z => sub.mp z i (by omega) w1 w2)]
        · rw [if_neg w2, B246_47_a7, nI_1]
          refine ih (i + 1) o5 (by omega) (fun j hj => ?_)
          by_cases w3 : j = i
          · subst w3; exact fun _ => w2
          · exact hl j (by omega)
      · rw [if_neg (fun z => w1 (xb.mp z)), B246_47_a7, nI_1]
        refine ih (i + 1) o5 (by omega) (fun j hj => ?_)
        by_cases w3 : j = i
        · subst w3; exact fun z => absurd z w1
        · exact hl j (by omega)
  have both : ∃ b : Int32, (b = 0 ∨ b = 1) ∧ jv (d + 4) 68 0 [some (.ref 3), some (.int (nI k)), none, none, none, none] [] (shC, I, L, pX pa pb pu pw) = some (some (.int b), (shC, I, L, pX pa pb pu pw)) ∧ jv (e + 5) 243 0 [some (.ref 0), some (.ref 7), some (.int 10), some (.int (nI k)), none] [] (shR, J, L', pR) = some (some (.int b), (shR, J, L', pR)) := by
    rw [B68_0_o3, jgo_some (k' := 366) rfl hd, B243_0_a7, g_at_10_0 h.2.2.2]
    dsimp only [Option.toList_some, List.cons_append, List.nil_append]
    rw [B68_4_o3, g_of3_10_4 hk, h.1 _ (by omega)]
    dsimp only [Option.toList_some, List.cons_append, List.nil_append]
    rw [B68_13_o3, B243_7_a7, if_neg (show ¬ (10 : Int32) = Int32.ofInt 2 by decide), if_neg (show ¬ (10 : Int32) = Int32.ofInt 3 by decide), if_neg (show ¬ (10 : Int32) = Int32.ofInt 4 by decide), if_neg (show ¬ (10 : Int32) = Int32.ofInt 5 by decide), if_neg (show ¬ (10 : Int32) = Int32.ofInt 6 by decide), if_neg (show ¬ (10 : Int32) = Int32.ofInt 7 by decide), if_neg (show ¬ (10 : Int32) = Int32.ofInt 8 by decide), if_neg (show ¬ (10 : Int32) = Int32.ofInt 9 by decide), if_pos (show (10 : Int32) = Int32.ofInt 10 by decide), if_pos (j_in_nI (show 844 + k * 5 < 1189 by omega) (by decide)), nI_clamp (n := 844 + k * 5) (by omega), h.2.1 _ (by omega)]
    by_cases z : m (844 + k * 5) = 0
    · rw [if_pos (thk.mpr z), if_pos z, if_pos bl_1, B243_330_a7, B243_335_a7, if_pos bl_1]
      exact ⟨1, Or.inr rfl, rfl, rfl⟩
    rw [if_neg (fun w => z (thk.mp w)), if_neg z]
    have inner : ∃ b : Int32, (b = 0 ∨ b = 1) ∧ (if m (848 + k * 5) &&& (th ^^^ (-1)) = 0 then jv (d + 4) 68 37 [some (.ref 3), some (.int (nI k)), some (.int th), some (.int (m (848 + k * 5))), some (.int 0), none] [] (shC, I, L, pX pa pb pu pw) else if vp_nar .boolean 0 = 0 then some (some (.int 0), (shC, I, L, pX pa pb pu pw)) else none) = some (some (.int b), (shC, I, L, pX pa pb pu pw)) ∧ jv (e + 4) 246 0 [some (.ref 0), some (.ref 7), some (.int (nI k)), none, none, none] [] (shR, J, L', pR) = some (some (.int b), (shR, J, L', pR)) := by
      have g4 : ∀ K, jgo jTT jMM (e + 4) 214 [.ref 0, .int 10, .int (nI k), .int 4] (shR, J, L', pR) K = K (some (.int (nI (848 + k * 5)))) (shR, J, L', pR) := fun K => g_at_10_4 h.2.2.2 k
      rw [B246_0_a7, g4]
      dsimp only [Option.toList_some, List.cons_append, List.nil_append]
      rw [B246_9_a7, if_pos (j_in_nI (by omega) (by decide)), nI_clamp (n := 848 + k * 5) (by omega), h.2.1 _ (by omega)]
      have f0 : jv (e + 4) 246 14 [some (.ref 0), some (.ref 7), some (.int (nI k)), some (.int (m (848 + k * 5))), some (.int 0), none] [] (shR, J, L', pR) = if m (848 + k * 5) &&& (th ^^^ (-1)) = 0 then jv (e + 4) 246 56 [some (.ref 0), some (.ref 7), some (.int (nI k)), some (.int (m (848 + k * 5))), some (.int 0), none] [] (shR, J, L', pR) else some (some (.int 0), (shR, J, L', pR)) := first 7 0 none (Nat.zero_add _) (fun j hj => absurd hj (Nat.not_lt_zero _))
      rw [f0]
      by_cases w : m (848 + k * 5) &&& (th ^^^ (-1)) = 0
      · rw [if_pos w, if_pos w]
        obtain ⟨⟨x, o5, q5⟩, -, a1, a2⟩ := j_run2 (α := Int32 × Option Value × Option Value) (fun i t => jv (d + 4) 68 37 [some (.ref 3), some (.int (nI k)), some (.int th), some (.int t.1), some (.int (nI i)), t.2.1] [] (shC, I, L, pX pa pb pu pw)) (fun i t => jv (e + 4) 246 56 [some (.ref 0), some (.ref 7), some (.int (nI k)), some (.int t.1), some (.int (nI i)), t.2.2] [] (shR, J, L', pR)) (fun _ _ => True) 7 (fun i hi t _ => by
          obtain ⟨x, o5, q5⟩ := t
          try dsimp only
          obtain ⟨y', c1, c2⟩ := tk_in (d := d + 3) (e := e + 3) (L := L) (L' := L') (pa := pa) (pb := pb) (pu := pu) (pw := pw) h ht (nI k) (nI i) (nI k) x
          refine ⟨(y', some (.int (nI 7)), some (.int (nI 7))), trivial, ?_, ?_⟩
          · rw [B68_37_o3, if_pos (by decide), if_pos (show nI i < (z_0.getD (10 : Int32).toNatClampNeg 0) from nI_lt (b := 7) hi (by decide))]
            rw [nI_1] at c1
            exact c1
          · rw [B246_56_a7, if_pos (show nI i < 7 from nI_lt (b := 7) hi (by decide))]
            rw [nI_1] at c2
            exact c2) (m (848 + k * 5), none, none) trivial
        dsimp only at a1 a2
        have shx : ((x >>> (nI k &&& 31)) &&& 1 = 0) ∨ ¬ ((x >>> (nI k &&& 31)) &&& 1 = 0) := Classical.em _
        rcases shx with s | s
        · refine ⟨1, Or.inr rfl, (show _ = _ from a1).trans ?_, (show _ = _ from a2).trans ?_⟩
          · rw [B68_37_o3, if_pos (by decide), if_neg (by decide), if_pos s, B68_114_o3, if_pos bl_1]
          · rw [B246_56_a7, if_neg (by decide), if_pos s, B246_140_a7, if_pos bl_1]
        · refine ⟨0, Or.inl rfl, (show _ = _ from a1).trans ?_, (show _ = _ from a2).trans ?_⟩
          · rw [B68_37_o3, if_pos (by decide), if_neg (by decide), if_neg s, B68_114_o3, if_pos bl_0]
          · rw [B246_56_a7, if_neg (by decide), if_neg s, B246_140_a7, if_pos bl_0]
      · rw [if_neg w, if_neg w, if_pos bl_0]
        exact ⟨0, Or.inl rfl, rfl, rfl⟩
    obtain ⟨b, b1, b2, b3⟩ := inner
    refine ⟨b, b1, b2, ?_⟩
    rw [jgo_some rfl b3]
    dsimp only [Option.toList_some, List.cons_append, List.nil_append]
    rw [B243_327_a7]
    rcases b1 with w | w
    · rw [w, if_pos rfl, B243_335_a7, if_pos bl_0]
    · rw [w, if_neg (by decide), B243_330_a7, B243_335_a7, if_pos bl_1]
  obtain ⟨b, b1, b2, b3⟩ := both
  refine ⟨b, b1, ?_, b3⟩
  show jv (d + 5) 61 0 [some (.ref 3), some (.int 10), some (.int (nI k))] [] (shC, I, L, pX pa pb pu pw) = _
  rw [B61_0_o3, if_neg (by decide), if_neg (by decide), if_neg (by decide), if_neg (by decide), if_neg (by decide), if_neg (by decide), if_neg (by decide), if_neg (by decide), if_pos (by decide), jgo_some rfl b2]
  dsimp only [Option.toList_some, List.cons_append, List.nil_append]
  rw [B61_185_o3, if_pos]
  rcases b1 with z | z
  · rw [z]; exact bl_0
  · rw [z]; exact bl_1
end ROWH
