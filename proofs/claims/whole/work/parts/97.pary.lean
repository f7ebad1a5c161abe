/-! RULES: the whole text read, in both: tokens -/
section PARY
variable {T : Nat} {K P : Nat → Nat} {W : Nat → List Nat} {U : Nat → Nat} {Q : Nat} {nm : Nat → List Nat} {kd nb : Nat → Nat} {nl nt nu s : Nat} {cw : Nat → List Nat} {rho : Nat → Nat} {lam : Nat} {pa pb pw : Option Nat}
theorem pX_u (pu : Option Nat) (x : Option Nat) : j_up (pX pa pb pu pw) 27 2 x = pX pa pb x pw := by
  funext c f
  rw [j_up_app]
  by_cases h1 : c = 27
  · subst h1
    rw [if_pos rfl]
    by_cases h2 : f = 2
    · subst h2; rw [if_pos rfl]; rfl
    · rw [if_neg h2]
      unfold pX
      split <;> first | rfl | exact absurd rfl h2 | (split <;> first | rfl | (exfalso; simp_all))
  · rw [if_neg h1]
    unfold pX
    split <;> first | rfl | exact absurd rfl h1 | (split <;> first | rfl | (exfalso; simp_all))
/-- tokens as the readers of statements see them -/
theorem tkS_of {m : Nat → Int32} {n : Nat} {K P N : Nat → Nat} {I J : Nat → Nat → Int32} {L L' : Nat → Nat → Int64} (hn : n ≤ 1200) (hT : T ≤ n) (h6 : I 27 6 = nI T) (ha : tkA m K P N T I L) (hb : tkB m K P N T J L') (hg : tkG m n K P N T) (e1 : I 28 T = 0) (e2 : I 29 T = nI n) (e3 : J 18 T = 0) (e4 : J 19 T = nI n) : tkS T (upN K T 0) (upN P T n) (fun j => bts m (P j) (N j)) (fun j => nW 10 48 (bts m (P j) (N j))) I L J L' := by
  have sg : ∀ k, k ∈ sgL → k ∈ kdL ∧ k ≠ 0 ∧ k ≠ 97 ∧ k ≠ 48 := by decide
  have kk : ∀ j, j < T → K j ∈ kdL ∧ K j ≠ 0 := by
    intro j hj
    obtain ⟨_, _, z⟩ := hg j hj
    rcases z with ⟨z, _⟩ | ⟨z, _⟩ | z | z | z
    · rw [z]; decide
    · rw [z]; decide
    · exact ⟨(sg _ z).1, (sg _ z).2.1⟩
    · rw [z]; decide
    · rw [z]; decide
  refine ⟨by omega, h6, upN_o _ _ _, fun j hj => ?_, fun j hj => ?_, fun j hj hk => ?_, fun j hj hk => ?_⟩
  · rcases Nat.lt_or_eq_of_le hj with z | z
    · rw [upN_n K (by omega), upN_n P (by omega)]
      obtain ⟨a1, a2, a3⟩ := ha j z
      obtain ⟨b1, b2, b3⟩ := hb j z
      exact ⟨a1, a2, b1, b2, (kk j z).1⟩
    · subst z
      rw [upN_o, upN_o]
      exact ⟨e1, e2, e3, e4, by decide⟩
  · rw [upN_n K (by omega)]; exact (kk j hj).2
  · rw [upN_n K (by omega)] at hk
    obtain ⟨a1, a2, a3⟩ := ha j hj
    obtain ⟨b1, b2, b3⟩ := hb j hj
    obtain ⟨_, l1, z⟩ := hg j hj
    rcases z with ⟨_, l8, z⟩ | ⟨z, _⟩ | z | z | z
    · refine ⟨⟨bts_all _ (fun i hi => z i hi), by rw [bts_len]; exact l1, by rw [bts_len]; exact l8⟩, ?_, ?_⟩
      · rw [a3]; unfold cV; rw [if_pos hk]; exact vC_eq _ z
      · rw [b3]; unfold rV; rw [if_pos hk]; exact vR_eq _ l8 z
    · rw [hk] at z; exact absurd z (by decide)
    · exact absurd hk (sg _ z).2.2.1
    · rw [hk] at z; exact absurd z (by decide)
    · rw [hk] at z; exact absurd z (by decide)
  · rw [upN_n K (by omega)] at hk
    obtain ⟨a1, a2, a3⟩ := ha j hj
    obtain ⟨b1, b2, b3⟩ := hb j hj
    obtain ⟨_, l1, z⟩ := hg j hj
    rcases z with ⟨z, _⟩ | ⟨_, l9, z⟩ | z | z | z
    · rw [hk] at z; exact absurd z (by decide)
    · refine ⟨?_, ?_, ?_⟩
      · exact Nat.lt_of_lt_of_le (nN_lt (N j) _ (bts_len _ _) (bts_all _ (fun i hi => z i hi))) (Nat.le_trans (Nat.pow_le_pow_right (by decide) l9) (by decide))
      · rw [a3]; unfold cV; rw [if_neg (by rw [hk]; decide), if_pos hk]; exact vN_eq _ z
      · rw [b3]; unfold rV; rw [if_neg (by rw [hk]; decide), if_pos hk]; exact vN_eq _ z
    · exact absurd hk (sg _ z).2.2.2
    · rw [hk] at z; exact absurd z (by decide)
    · rw [hk] at z; exact absurd z (by decide)
/-- the call that makes the tokens -/
theorem tok_call1 {d e n : Nat} {m : Nat → Int32} {I J : Nat → Nat → Int32} {L L' : Nat → Nat → Int64} {pu : Option Nat} (hn : n ≤ 1200) (h888 : m 888 = nI n) (hI : ∀ q, q < 1189 → I 2 q = m q) (hJ : ∀ q, q < 1189 → J 6 q = m q) (hr : rCst J) (h0 : I 27 0 = 0) (h29 : J 0 29 = 0) : jW2 (jv (d + 4) 3 0 [some (.ref 27), some (.ref 1), none, none, none, none] [] (shC, I, L, pX pa pb pu pw)) (jv (e + 1) 256 0 [some (.ref 0), some (.ref 6), none, none, none, none, none, none, none] [] (shR, J, L', pR)) (tkQ m n (pX pa pb pu pw) I J L L') := by
  have c52 : jv (d + 3) 52 0 [some (.ref 1)] [] (shC, I, L, pX pa pb pu pw) = some (some (.int (nI n)), (shC, I, L, pX pa pb pu pw)) := by
    rw [B52_0_o1, show (12 : Int32) = nI 12 from rfl, show (0 : Int32) = nI 0 from rfl, jgo_some (d := d + 2) rfl (of_1 (a := 12) (b := 0) (c := 0) (by decide) (by decide) (by decide) none)]
    dsimp only [Option.toList_some, Option.toList_none, List.cons_append, List.nil_append]
    rw [B52_8_o1, show fpN.getD 12 0 + 0 * fieldsN.getD 12 0 + 0 = 888 from rfl, hI 888 (by decide), h888]
  have m12 : J 4 12 = nI 888 := hr.2.2.2.1 12 (by decide)
  rw [B3_0_m1, jgo_some (d := d + 3) rfl c52]
  dsimp only [Option.toList_some, Option.toList_none, List.cons_append, List.nil_append]
  rw [B3_4_m1, if_neg (show ¬ (1200 : Int32) < nI n from nI_nlt (a := 1200) (by omega) (by omega)), B256_0_a6, if_pos (by decide), show ((12 : Int32)).toNatClampNeg = 12 from rfl, m12, if_pos (j_in_nI (by decide) (by decide)), nI_clamp (by decide), hJ 888 (by decide), h888]
  refine jW2_mono (tok_all1 (m := m) (d := d) (e := e) (pa := pa) (pb := pb) (pu := pu) (pw := pw) hn n 0 0 (fun _ => 0) (fun _ => 0) (fun _ => 0) 0 (j_up I 27 6 0) (j_up J 0 27 0) L L' none none none none none none (by omega) (Nat.le_refl _) (Nat.le_refl _) (fun q hq => by rw [j_up_cell _ (by decide)]; exact hI q hq) (fun q hq => by rw [j_up_cell _ (by decide)]; exact hJ q hq) (rCst_eq1 hr (fun c hc _ => j_up_cell _ hc _ _)) (by rw [j_up_own, if_neg (by decide)]; exact h0) (by rw [j_up_own, if_neg (by decide)]; exact h29) (by rw [j_up_own, if_pos rfl]; rfl) (by rw [j_up_own, if_pos rfl]; rfl) (fun j hj => absurd hj (Nat.not_lt_zero _)) (fun j hj => absurd hj (Nat.not_lt_zero _)) (fun j hj => absurd hj (Nat.not_lt_zero _))) ?_
  intro v S w S' z
  exact tkQ.mono (I := j_up I 27 6 0) (J := j_up J 0 27 0) (L := L) (L' := L') (m := m) ⟨fun c h1 h2 h3 => j_up_cell _ h1 _ _, fun q h1 h2 h3 => by rw [j_up_own, if_neg h3], fun _ _ => rfl⟩ ⟨fun c h1 h2 h3 => j_up_cell _ h1 _ _, fun q h1 h2 h3 => by rw [j_up_own, if_neg h1], fun _ _ => rfl⟩ z
/-- the call that makes the tokens -/
theorem tok_call3 {d e n : Nat} {m : Nat → Int32} {I J : Nat → Nat → Int32} {L L' : Nat → Nat → Int64} {pu : Option Nat} (hn : n ≤ 1200) (h888 : m 888 = nI n) (hI : ∀ q, q < 1189 → I 4 q = m q) (hJ : ∀ q, q < 1189 → J 7 q = m q) (hr : rCst J) (h0 : I 27 0 = 0) (h29 : J 0 29 = 0) : jW2 (jv (d + 4) 3 0 [some (.ref 27), some (.ref 3), none, none, none, none] [] (shC, I, L, pX pa pb pu pw)) (jv (e + 1) 256 0 [some (.ref 0), some (.ref 7), none, none, none, none, none, none, none] [] (shR, J, L', pR)) (tkQ m n (pX pa pb pu pw) I J L L') := by
  have c52 : jv (d + 3) 52 0 [some (.ref 3)] [] (shC, I, L, pX pa pb pu pw) = some (some (.int (nI n)), (shC, I, L, pX pa pb pu pw)) := by
    rw [B52_0_o3, show (12 : Int32) = nI 12 from rfl, show (0 : Int32) = nI 0 from rfl, jgo_some (d := d + 2) rfl (of_3 (a := 12) (b := 0) (c := 0) (by decide) (by decide) (by decide) none)]
    dsimp only [Option.toList_some, Option.toList_none, List.cons_append, List.nil_append]
    rw [B52_8_o3, show fpN.getD 12 0 + 0 * fieldsN.getD 12 0 + 0 = 888 from rfl, hI 888 (by decide), h888]
  have m12 : J 4 12 = nI 888 := hr.2.2.2.1 12 (by decide)
  rw [B3_0_m3, jgo_some (d := d + 3) rfl c52]
  dsimp only [Option.toList_some, Option.toList_none, List.cons_append, List.nil_append]
  rw [B3_4_m3, if_neg (show ¬ (1200 : Int32) < nI n from nI_nlt (a := 1200) (by omega) (by omega)), B256_0_a7, if_pos (by decide), show ((12 : Int32)).toNatClampNeg = 12 from rfl, m12, if_pos (j_in_nI (by decide) (by decide)), nI_clamp (by decide), hJ 888 (by decide), h888]
  refine jW2_mono (tok_all3 (m := m) (d := d) (e := e) (pa := pa) (pb := pb) (pu := pu) (pw := pw) hn n 0 0 (fun _ => 0) (fun _ => 0) (fun _ => 0) 0 (j_up I 27 6 0) (j_up J 0 27 0) L L' none none none none none none (by omega) (Nat.le_refl _) (Nat.le_refl _) (fun q hq => by rw [j_up_cell _ (by decide)]; exact hI q hq) (fun q hq => by rw [j_up_cell _ (by decide)]; exact hJ q hq) (rCst_eq1 hr (fun c hc _ => j_up_cell _ hc _ _)) (by rw [j_up_own, if_neg (by decide)]; exact h0) (by rw [j_up_own, if_neg (by decide)]; exact h29) (by rw [j_up_own, if_pos rfl]; rfl) (by rw [j_up_own, if_pos rfl]; rfl) (fun j hj => absurd hj (Nat.not_lt_zero _)) (fun j hj => absurd hj (Nat.not_lt_zero _)) (fun j hj => absurd hj (Nat.not_lt_zero _))) ?_
  intro v S w S' z
  exact tkQ.mono (I := j_up I 27 6 0) (J := j_up J 0 27 0) (L := L) (L' := L') (m := m) ⟨fun c h1 h2 h3 => j_up_cell _ h1 _ _, fun q h1 h2 h3 => by rw [j_up_own, if_neg h3], fun _ _ => rfl⟩ ⟨fun c h1 h2 h3 => j_up_cell _ h1 _ _, fun q h1 h2 h3 => by rw [j_up_own, if_neg h1], fun _ _ => rfl⟩ z
end PARY
