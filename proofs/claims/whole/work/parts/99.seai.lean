/-! SEA: the greatest level, second one -/
section SEAI
variable {e : Nat} {J : Nat → Nat → Int32} {L : Nat → Nat → Int64}
/-- the sea's level -/
theorem level_r {M : Int → Int} {most b c : Int} (hA : ∀ a, -200001 ≤ a → a ≤ 200001 → jv e 302 0 [some (.ref 0), some (.int (vI a)), some (.int (vI b)), some (.int (vI c)), none, none, none, none, none, none] [] (shR, J, L, pR) = some (some (.long (lI (M a))), (shR, J, L, pR))) (hmb : ∀ a, -200001 ≤ a → a ≤ 200001 → -4000000000000000 ≤ M a ∧ M a ≤ 4000000000000000) (hmo : 0 ≤ most ∧ most ≤ 4000000000000000) (hm : L 0 63 = lI most) (h0 : M (-100000) ≤ most) : ∃ be, jv (e + 1) 312 0 [some (.ref 0), some (.int (vI b)), some (.int (vI c)), none, none, none] [] (shR, J, L, pR) = some (some (.int (vI be)), (shR, J, L, pR)) ∧ lvI M most be (be + 1) := by
  have loop : ∀ (w : Nat) (be ab : Int) (o5 : Option Value), ab - be ≤ w → lvI M most be ab → ∃ be', jv (e + 1) 312 9 [some (.ref 0), some (.int (vI b)), some (.int (vI c)), some (.int (vI be)), some (.int (vI ab)), o5] [] (shR, J, L, pR) = some (some (.int (vI be')), (shR, J, L, pR)) ∧ lvI M most be' (be' + 1) := by
    intro w
    induction w using Nat.strongRecOn with
    | _ w ih =>
      intro be ab o5 hw hv
      obtain ⟨v1, v2, v3, v4, v5⟩ := id hv
      rw [B312_9, vI_sub]
      by_cases g : 1 < ab - be
      case neg =>
        have w1 : ab = be + 1 := by omega
        refine ⟨be, ?_, by rw [← w1]; exact hv⟩
        rw [if_neg (show ¬ (1 : Int32) < vI (ab - be) from fun y => g ((vI_lt (a := 1) (by omega) (by omega) (by omega) (by omega)).mp y))]
      have mb := hmb (be + (ab - be) / 2) (by omega) (by omega)
      have cm : (0 : Int32) < lg_cmp (lI (M (be + (ab - be) / 2))) (lI most) ↔ most < M (be + (ab - be) / 2) := by
        rw [lcmp_pos, lI_toInt (by omega) (by omega), lI_toInt (by omega) (by omega)]
      rw [if_pos (show (1 : Int32) < vI (ab - be) from (vI_lt (a := 1) (by omega) (by omega) (by omega) (by omega)).mpr g), if_neg (show ¬ (2 : Int32) = 0 by decide), vI_half (by omega) (by omega), vI_add, jgo_some (d := e) rfl (hA _ (by omega) (by omega))]
      dsimp only [Option.toList_some, Option.toList_none, List.cons_append, List.nil_append]
      rw [B312_35, hm]
      by_cases s1 : most < M (be + (ab - be) / 2)
      · rw [if_pos (cm.mpr s1), B312_53]
        exact ih (w - 1) (by omega) be (be + (ab - be) / 2) _ (by omega) ⟨v1, by omega, by omega, v4, Or.inr s1⟩
      · rw [if_neg (fun y => s1 (cm.mp y)), B312_53]
        exact ih (w - 1) (by omega) (be + (ab - be) / 2) ab _ (by omega) ⟨by omega, by omega, v3, by omega, v5⟩
  rw [B312_0]
  exact loop 300001 (-100000) 200001 none (by omega) ⟨by omega, by omega, by omega, h0, Or.inl rfl⟩
/-- a liquid's level -/
theorem liquid_r {M : Int → Int} {most b c : Int} {p x : Nat} (hA : ∀ a, -200001 ≤ a → a ≤ 200001 → jv e 306 0 [some (.ref 0), some (.int (nI p)), some (.int (vI a)), some (.int (vI b)), some (.int (vI c)), none, none, none, none, none, none, none, none, none] [] (shR, J, L, pR) = some (some (.long (lI (M a))), (shR, J, L, pR))) (hmb : ∀ a, -200001 ≤ a → a ≤ 200001 → -4000000000000000 ≤ M a ∧ M a ≤ 4000000000000000) (hmo : 0 ≤ most ∧ most ≤ 4000000000000000) (hp : p < 16) (hr : rCst J) (hx : J 6 (400 + p * 2) = nI x) (hx2 : x ≤ 600000) (hm : most = 64 * x) (h0 : M (-100000) ≤ most) : ∃ be, jv (e + 1) 308 0 [some (.ref 0), some (.int (nI p)), some (.int (vI b)), some (.int (vI c)), none, none, none, none, none] [] (shR, J, L, pR) = some (some (.int (vI be)), (shR, J, L, pR)) ∧ lvI M most be (be + 1) := by
  have loop : ∀ (w : Nat) (be ab : Int) (o8 : Option Value), ab - be ≤ w → lvI M most be ab → ∃ be', jv (e + 1) 308 29 [some (.ref 0), some (.int (nI p)), some (.int (vI b)), some (.int (vI c)), some (.long (lI most)), none, some (.int (vI be)), some (.int (vI ab)), o8] [] (shR, J, L, pR) = some (some (.int (vI be')), (shR, J, L, pR)) ∧ lvI M most be' (be' + 1) := by
    intro w
    induction w using Nat.strongRecOn with
    | _ w ih =>
      intro be ab o8 hw hv
      obtain ⟨v1, v2, v3, v4, v5⟩ := id hv
      rw [B308_29, vI_sub]
      by_cases g : 1 < ab - be
      case neg =>
        have w1 : ab = be + 1 := by omega
        refine ⟨be, ?_, by rw [← w1]; exact hv⟩
        rw [if_neg (show ¬ (1 : Int32) < vI (ab - be) from fun y => g ((vI_lt (a := 1) (by omega) (by omega) (by omega) (by omega)).mp y))]
      have mb := hmb (be + (ab - be) / 2) (by omega) (by omega)
      have cm : (0 : Int32) < lg_cmp (lI (M (be + (ab - be) / 2))) (lI most) ↔ most < M (be + (ab - be) / 2) := by
        rw [lcmp_pos, lI_toInt (by omega) (by omega), lI_toInt (by omega) (by omega)]
      rw [if_pos (show (1 : Int32) < vI (ab - be) from (vI_lt (a := 1) (by omega) (by omega) (by omega) (by omega)).mpr g), if_neg (show ¬ (2 : Int32) = 0 by decide), vI_half (by omega) (by omega), vI_add, jgo_some (d := e) rfl (hA _ (by omega) (by omega))]
      dsimp only [Option.toList_some, Option.toList_none, List.cons_append, List.nil_append]
      rw [B308_59]
      by_cases s1 : most < M (be + (ab - be) / 2)
      · rw [if_pos (cm.mpr s1), B308_76]
        exact ih (w - 1) (by omega) be (be + (ab - be) / 2) _ (by omega) ⟨v1, by omega, by omega, v4, Or.inr s1⟩
      · rw [if_neg (fun y => s1 (cm.mp y)), B308_76]
        exact ih (w - 1) (by omega) (be + (ab - be) / 2) ab _ (by omega) ⟨by omega, by omega, v3, by omega, v5⟩
  have a4 : jv e 214 0 [some (.ref 0), some (.int 4), some (.int (nI p)), some (.int 0)] [] (shR, J, L, pR) = some (some (.int (nI (400 + p * 2))), (shR, J, L, pR)) := at_ok (t := 4) hr (by decide) p 0
  rw [B308_0, jgo_some (d := e) rfl a4]
  dsimp only [Option.toList_some, Option.toList_none, List.cons_append, List.nil_append]
  rw [B308_14, if_pos (j_in_nI (by omega) (by decide)), nI_clamp (by omega), hx, nI64 (by omega), show (64 : Int64) = lI 64 from rfl, lI_mul, ← hm]
  exact loop 300001 (-100000) 200001 none (by omega) ⟨by omega, by omega, by omega, h0, Or.inl rfl⟩
end SEAI
