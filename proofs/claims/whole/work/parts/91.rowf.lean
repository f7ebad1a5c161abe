/-! ROWS: plates, spaces -/
section ROWF
variable {d e : Nat} {I J : Nat → Nat → Int32} {L L' : Nat → Nat → Int64} {pa pb pu pw : Option Nat} {m : Nat → Int32}
theorem i_and1t (y : Int32) : (y &&& 1 = 1) ↔ y.toBitVec.getLsbD 0 = true := by
  constructor
  · intro h
    have h2 := congrArg (fun z : Int32 => z.toBitVec.getLsbD 0) h
    simpa using h2
  · intro h
    apply Int32.toBitVec_inj.mp
    apply BitVec.eq_of_getLsbD_eq
    intro i hi
    rw [Int32.toBitVec_and, BitVec.getLsbD_and]
    by_cases h0 : i = 0
    · subst h0
      rw [h, Bool.true_and]
    · have : (1 : Int32).toBitVec.getLsbD i = false := by
        show (1#32).getLsbD i = false
        simp [h0]
      rw [this, Bool.and_false]
theorem row_7 (h : mT m I J) {k : Nat} (hk : k < 8) : ∃ b, rwB d e I J L L' pa pb pu pw 7 k b ∧ (b = 1 → m (612 + k * 14) = 0 ∨ (m (600 + k * 14) ≠ 0 ∧ ∃ j, j < 12 ∧ (m (600 + k * 14 + j)).toBitVec.getLsbD 0 = true)) := by
  have ea : ∀ x, nI (600 + k * 14) + nI x = nI (600 + k * 14 + x) := fun x => nI_add _ _
  have e12 : nI (600 + k * 14) + 12 = nI (612 + k * 14) := by rw [show nI (600 + k * 14) + 12 = nI (600 + k * 14 + 12) from nI_add _ 12, show 600 + k * 14 + 12 = 612 + k * 14 by omega]
  have both : ∃ b : Int32, (b = 0 ∨ b = 1) ∧ (b = 1 → m (612 + k * 14) = 0 ∨ (m (600 + k * 14) ≠ 0 ∧ ∃ j, j < 12 ∧ (m (600 + k * 14 + j)).toBitVec.getLsbD 0 = true)) ∧ jv (d + 4) 67 0 [some (.ref 3), some (.int (nI k)), none, none] [] (shC, I, L, pX pa pb pu pw) = some (some (.int b), (shC, I, L, pX pa pb pu pw)) ∧ jv (e + 5) 243 0 [some (.ref 0), some (.ref 7), some (.int 7), some (.int (nI k)), none] [] (shR, J, L', pR) = some (some (.int b), (shR, J, L', pR)) := by
    rw [B67_0_o3, g_of3_7_12 hk, h.1 _ (by omega), B243_0_a7, g_at_7_0 h.2.2.2]
    dsimp only [Option.toList_some, List.cons_append, List.nil_append]
    rw [B67_9_o3, B243_7_a7, if_neg (show ¬ (7 : Int32) = Int32.ofInt 2 by decide), if_neg (show ¬ (7 : Int32) = Int32.ofInt 3 by decide), if_neg (show ¬ (7 : Int32) = Int32.ofInt 4 by decide), if_neg (show ¬ (7 : Int32) = Int32.ofInt 5 by decide), if_neg (show ¬ (7 : Int32) = Int32.ofInt 6 by decide), if_pos (show (7 : Int32) = Int32.ofInt 7 by decide), e12, if_pos (j_in_nI (by omega) (by decide)), nI_clamp (n := 612 + k * 14) (by omega), h.2.1 _ (by omega)]
    by_cases q : m (612 + k * 14) = 0
    · rw [if_pos q, if_pos q, if_pos bl_1, B243_249_a7, B243_254_a7, if_pos bl_1]
      exact ⟨1, Or.inr rfl, fun _ => Or.inl q, rfl, rfl⟩
    rw [if_neg q, if_neg q]
    obtain ⟨⟨bits, left⟩, ⟨a1, a2⟩, a3, a4⟩ := j_run2 (α := Int32 × Int32) (fun i t => jv (d + 4) 67 18 [some (.ref 3), some (.int (nI k)), some (.int t.1), some (.int (nI i))] [] (shC, I, L, pX pa pb pu pw)) (fun i t => jv (e + 4) 245 5 [some (.ref 0), some (.ref 7), some (.int (nI (600 + k * 14))), some (.int t.2), some (.int (nI i))] [] (shR, J, L', pR)) (fun i t => t.2 = (if t.1.toBitVec.getLsbD 0 = true then 1 else 0) ∧ (t.1.toBitVec.getLsbD 0 = true ↔ ∃ j, j < i ∧ (m (600 + k * 14 + j)).toBitVec.getLsbD 0 = true)) 12 (fun i hi t ht => by
      obtain ⟨bits, left⟩ := t
      obtain ⟨t1, t2⟩ := ht
      dsimp only at t1 t2 ⊢
      have g : ∀ K, jgo jTT jMM (d + 4) 51 [.ref 3, .int 7, .int (nI k), .int (nI i)] (shC, I, L, pX pa pb pu pw) K = K (some (.int (I 4 (600 + k * 14 + i)))) (shC, I, L, pX pa pb pu pw) := fun K => jgo_some rfl (of_3 (a := 7) (b := k) (c := i) (by decide) hk (show i < 14 by omega) none)
      have bo : (bits ||| m (600 + k * 14 + i)).toBitVec.getLsbD 0 = (bits.toBitVec.getLsbD 0 || (m (600 + k * 14 + i)).toBitVec.getLsbD 0) := by rw [Int32.toBitVec_or, BitVec.getLsbD_or]
      have ex : (bits ||| m (600 + k * 14 + i)).toBitVec.getLsbD 0 = true ↔ ∃ j, j < i + 1 ∧ (m (600 + k * 14 + j)).toBitVec.getLsbD 0 = true := by
        rw [bo, Bool.or_eq_true, t2]
        constructor
        · rintro (⟨j, j1, j2⟩ | z)
          · exact ⟨j, by omega, j2⟩
          · exact ⟨i, by omega, z⟩
        · rintro ⟨j, j1, j2⟩
          by_cases w : j = i
          · subst w; exact Or.inr j2
          · exact Or.inl ⟨j, by omega, j2⟩
      refine ⟨(bits ||| m (600 + k * 14 + i), if (bits ||| m (600 + k * 14 + i)).toBitVec.getLsbD 0 = true then 1 else 0), ⟨rfl, ex⟩, ?_, ?_⟩
      · dsimp only
        rw [B67_18_o3, if_pos (show nI i < 12 from nI_lt (b := 12) hi (by decide)), g, h.1 _ (by omega)]
        dsimp only [Option.toList_some, List.cons_append, List.nil_append]
        rw [B67_33_o3, nI_1]
      · dsimp only
        rw [B245_5_a7, if_pos (show nI i < 12 from nI_lt (b := 12) hi (by decide)), t1, bo]
        by_cases w : bits.toBitVec.getLsbD 0 = true
        · rw [if_pos w, if_neg (show ¬ (1 : Int32) = 0 by decide), B245_28_a7, B245_33_a7, w, Bool.true_or, if_pos rfl, nI_1]
        · rw [if_neg w, if_pos rfl, ea, if_pos (j_in_nI (by omega) (by decide)), nI_clamp (n := 600 + k * 14 + i) (by omega), h.2.1 _ (by omega), show bits.toBitVec.getLsbD 0 = false from Bool.eq_false_iff.mpr w, Bool.false_or]
          by_cases w2 : (m (600 + k * 14 + i)).toBitVec.getLsbD 0 = true
          · rw [if_pos ((i_and1t _).mpr w2), if_pos w2, B245_28_a7, B245_33_a7, nI_1]
          · rw [if_neg (fun z => w2 ((i_and1t _).mp z)), if_neg w2, B245_33_a7, nI_1]) (0, 0) ⟨by dsimp only; rw [if_neg (by decide)], by dsimp only; exact ⟨fun z => absurd z (by decide), fun ⟨j, j1, _⟩ => absurd j1 (Nat.not_lt_zero _)⟩⟩
    dsimp only at a1 a2 a3 a4
    have fin : ∃ b : Int32, (b = 0 ∨ b = 1) ∧ (b = 1 → m (600 + k * 14) ≠ 0 ∧ ∃ j, j < 12 ∧ (m (600 + k * 14 + j)).toBitVec.getLsbD 0 = true) ∧ jv (d + 4) 67 18 [some (.ref 3), some (.int (nI k)), some (.int bits), some (.int (nI 12))] [] (shC, I, L, pX pa pb pu pw) = some (some (.int b), (shC, I, L, pX pa pb pu pw)) ∧ jv (e + 4) 245 5 [some (.ref 0), some (.ref 7), some (.int (nI (600 + k * 14))), some (.int left), some (.int (nI 12))] [] (shR, J, L', pR) = some (some (.int b), (shR, J, L', pR)) := by
      rw [B67_18_o3, if_neg (by decide), g_of3_7_0 hk, h.1 _ (by omega), B245_5_a7, if_neg (by decide), a1]
      dsimp only [Option.toList_some, List.cons_append, List.nil_append]
      rw [B67_49_o3, if_pos (j_in_nI (show 600 + k * 14 < 1189 by omega) (by decide)), nI_clamp (n := 600 + k * 14) (by omega), h.2.1 _ (by omega)]
      by_cases w : bits.toBitVec.getLsbD 0 = true
      · rw [if_pos w, if_neg (show ¬ (1 : Int32) = 0 by decide)]
        by_cases w2 : m (600 + k * 14) = 0
        · rw [if_pos w2, if_pos w2, B67_62_o3, B67_63_o3, if_pos bl_0, B245_54_a7, B245_55_a7, if_pos bl_0]
          exact ⟨0, Or.inl rfl, fun z => absurd z (by decide), rfl, rfl⟩
        · rw [if_neg w2, if_neg w2, if_neg (fun z => by rw [(i_and1 _).mp z] at w; cases w), B67_63_o3, if_pos bl_1, B245_55_a7, if_pos bl_1]
          exact ⟨1, Or.inr rfl, fun _ => ⟨w2, a2.mp w⟩, rfl, rfl⟩
      · rw [if_neg w, if_pos rfl, B245_54_a7, B245_55_a7, if_pos bl_0, if_pos ((i_and1 _).mpr (Bool.eq_false_iff.mpr w)), ite_self, B67_62_o3, B67_63_o3, if_pos bl_0]
        exact ⟨0, Or.inl rfl, fun z => absurd z (by decide), rfl, rfl⟩
    obtain ⟨b, b1, b2, b3, b4⟩ := fin
    have run : jv (e + 4) 245 0 [some (.ref 0), some (.ref 7), some (.int (nI (600 + k * 14))), none, none] [] (shR, J, L', pR) = some (some (.int b), (shR, J, L', pR)) := by
      rw [B245_0_a7]
      exact (show _ = _ from a4).trans b4
    refine ⟨b, b1, fun z => Or.inr (b2 z), (show _ = _ from a3).trans b3, ?_⟩
    rw [jgo_some rfl run]
    dsimp only [Option.toList_some, List.cons_append, List.nil_append]
    rw [B243_246_a7]
    rcases b1 with z | z
    · rw [z, if_pos rfl, B243_254_a7, if_pos bl_0]
    · rw [z, if_neg (by decide), B243_249_a7, B243_254_a7, if_pos bl_1]
  obtain ⟨b, b1, b2, b3, b4⟩ := both
  refine ⟨b, ⟨b1, ?_, b4⟩, b2⟩
  show jv (d + 5) 61 0 [some (.ref 3), some (.int 7), some (.int (nI k))] [] (shC, I, L, pX pa pb pu pw) = _
  rw [B61_0_o3, if_neg (by decide), if_neg (by decide), if_neg (by decide), if_neg (by decide), if_neg (by decide), if_pos (by decide), jgo_some rfl b3]
  dsimp only [Option.toList_some, List.cons_append, List.nil_append]
  rw [B61_129_o3, if_pos]
  rcases b1 with z | z
  · rw [z]; exact bl_0
  · rw [z]; exact bl_1
end ROWF
