/-! THE START -/
section SECO
theorem i3z {c q : Nat} (h : i3f c q = 0) : j_up i3f c q 0 = i3f := by
  have := j_up_ii i3f c q
  rw [h] at this
  exact this
theorem i3_0 {c : Nat} (h2 : c ≠ 2) (h4 : c ≠ 4) (h6 : c ≠ 6) (q : Nat) : i3f c q = 0 := by
  unfold i3f
  rw [va_up_ne _ _ h6, va_up_ne _ _ h4, va_up_ne _ _ h2]
theorem i3_2 : i3f 2 = m0f := by
  unfold i3f
  rw [va_up_ne _ _ (by decide), va_up_ne _ _ (by decide), va_up_self]
theorem r0_6 : rI0 6 = m0f := by
  unfold rI0
  rw [va_up_ne _ _ (by decide), va_up_self]
theorem m0_ok : ∀ a, a < 12 → ∀ b, b < 24 → b < rowsN.getD a 0 → ∀ c, c < 14 → c < fieldsN.getD a 0 → mbv a c (m0f (fpN.getD a 0 + b * fieldsN.getD a 0 + c)) = 1 := by decide +kernel
theorem m0_sz : ∀ a, a < 12 → rowsN.getD a 0 ≤ 24 ∧ fieldsN.getD a 0 ≤ 14 := by decide
theorem m0_okV (q : Nat) : okV q (m0f q) := by
  refine ⟨fun a b c ha hb hc hq => ?_, fun hq => ⟨0, by decide, by rw [hq]; rfl⟩⟩
  have := m0_sz a ha
  rw [hq]
  exact m0_ok a ha b (by omega) hb c (by omega) hc
theorem m0_rt : rtM m0f := by
  refine ⟨fun k hk => Or.inl ?_, fun p hp => Or.inl ?_, fun k hk => Or.inl ?_, fun k hk => Or.inl ?_⟩
  · exact (by decide +kernel : ∀ k, k < 8 → m0f (612 + k * 14) = 0) k hk
  · exact (by decide +kernel : ∀ k, k < 16 → m0f (152 + k * 8) = 0) p hp
  · exact (by decide +kernel : ∀ k, k < 24 → m0f (280 + k * 5) = 0) k hk
  · exact (by decide +kernel : ∀ k, k < 8 → m0f (432 + k * 6) = 0) k hk
/-- the empty text, read by the first one -/
theorem par0 : jv 205 2 0 [some (.ref 27), some (.ref 1), some (.ref 38), none] [] (shC, i3f, l3f, pX (some 38) (some 49) none none) = some (some (.int 1), (shC, i3f, l3f, pX (some 38) (some 49) (some 38) none)) := by
  have c52 : jv 203 52 0 [some (.ref 1)] [] (shC, i3f, l3f, pX (some 38) (some 49) (some 38) none) = some (some (.int 0), (shC, i3f, l3f, pX (some 38) (some 49) (some 38) none)) := by
    rw [B52_0_o1, show (12 : Int32) = nI 12 from rfl, show (0 : Int32) = nI 0 from rfl, jgo_some (d := 202) rfl (of_1 (a := 12) (b := 0) (c := 0) (by decide) (by decide) (by decide) none)]
    dsimp only [Option.toList_some, Option.toList_none, List.cons_append, List.nil_append]
    rw [B52_8_o1, show fpN.getD 12 0 + 0 * fieldsN.getD 12 0 + 0 = 888 from rfl, i3_2]
    rfl
  have c3 : jv 204 3 0 [some (.ref 27), some (.ref 1), none, none, none, none] [] (shC, i3f, l3f, pX (some 38) (some 49) (some 38) none) = some (none, (shC, i3f, l3f, pX (some 38) (some 49) (some 38) none)) := by
    rw [B3_0_m1, jgo_some (d := 203) rfl c52]
    dsimp only [Option.toList_some, Option.toList_none, List.cons_append, List.nil_append]
    rw [B3_4_m1, if_neg (show ¬ (1200 : Int32) < 0 by decide), i3z (i3_0 (by decide) (by decide) (by decide) _), B3_21_m1, if_neg (show ¬ (0 : Int32) < 0 by decide), B3_80_m1, i3_0 (c := 27) (by decide) (by decide) (by decide), show (0 : Int32).toNatClampNeg = 0 from rfl, i3z (i3_0 (c := 28) (by decide) (by decide) (by decide) _), i3_0 (c := 27) (by decide) (by decide) (by decide), show (0 : Int32).toNatClampNeg = 0 from rfl, i3z (i3_0 (c := 29) (by decide) (by decide) (by decide) _), if_pos (by decide), if_pos (by decide)]
  rw [B2_0_m1_g38, pX_u, jgo_some (d := 204) rfl (B93_0_o38 _ _ _ _ _ _ _)]
  dsimp only [Option.toList_some, Option.toList_none, List.cons_append, List.nil_append]
  rw [i3z (i3_0 (c := 38) (by decide) (by decide) (by decide) _), i3z (i3_0 (c := 38) (by decide) (by decide) (by decide) _), i3z (i3_0 (c := 38) (by decide) (by decide) (by decide) _), i3z (i3_0 (c := 38) (by decide) (by decide) (by decide) _), B2_9_m1_g38]
  rw [i3z (i3_0 (c := 27) (by decide) (by decide) (by decide) _), i3z (i3_0 (c := 27) (by decide) (by decide) (by decide) _), i3z (i3_0 (c := 27) (by decide) (by decide) (by decide) _), i3z (i3_0 (c := 27) (by decide) (by decide) (by decide) _), jgo_some (d := 204) rfl c3]
  dsimp only [Option.toList_some, Option.toList_none, List.cons_append, List.nil_append]
  rw [B2_34_m1_g38, B2_36_m1_g38, i3_0 (c := 27) (by decide) (by decide) (by decide), if_neg (show ¬ (0 : Int32) < 0 by decide), B2_124_m1_g38, i3_0 (c := 27) (by decide) (by decide) (by decide), if_pos rfl, B2_136_m1_g38, if_pos (by decide)]
theorem kpT_0 : kpT 38 m0f i3f := ⟨0, i3f, l3f, some 38, some 49, none, none, i3f, l3f, 205, 1, by decide, rfl, kwS_l3f, by decide, Or.inl ⟨rfl, fun q _ => by rw [i3_2]⟩, par0, fun _ _ _ => rfl⟩
theorem mK_0 : mK m0f i3f rI0 := ⟨fun q _ => by rw [i3_2], fun q _ => by rw [r0_6], fun q _ => m0_okV q, rI0_cst, m0_rt.1⟩
theorem seaT_0 : seaT m0f 0 i3f rI0 l3f (fun _ _ => 0) := by
  refine ⟨fun q _ => ⟨0, ?_, by decide, by decide⟩, ⟨?_, fun i _ => ⟨0, Nat.le_refl _, ?_⟩⟩, ⟨?_, ?_, ?_⟩, ⟨rfl, rfl⟩, Or.inl ⟨?_, fr_0_59⟩⟩
  · rw [i3_0 (by decide) (by decide) (by decide)]; rfl
  · rw [i3_0 (by decide) (by decide) (by decide)]; rfl
  · rw [i3_0 (by decide) (by decide) (by decide)]; rfl
  · rw [i3_0 (by decide) (by decide) (by decide)]
  · rw [i3_0 (by decide) (by decide) (by decide)]
  · rw [i3_0 (by decide) (by decide) (by decide)]
  · rw [i3_0 (by decide) (by decide) (by decide)]
theorem prG_0 : prG 38 i3f rI0 (fun _ _ => 0) := by
  refine ⟨0, 0, 0, 0, 0, 0, fun _ => 0, by decide, by decide, by decide, by decide, ?_, ?_, ?_, rfl, rfl, rfl, fun i hi => absurd hi (Nat.not_lt_zero i), fun i hi => absurd hi (Nat.not_lt_zero i), fun i hi => absurd hi (Nat.not_lt_zero i), fun _ _ _ => Nat.le_refl _, by decide⟩
  · rw [i3_0 (by decide) (by decide) (by decide)]; rfl
  · rw [i3_0 (by decide) (by decide) (by decide)]; rfl
  · rw [i3_0 (by decide) (by decide) (by decide)]; rfl
theorem r0_o {c : Nat} (h0 : c ≠ 0) (h6 : 6 < c) (q : Nat) : rI0 c q = 0 := by
  unfold rI0
  rw [va_up_ne _ _ h0, va_up_ne _ _ (by omega)]
  unfold rT r0f
  rw [va_up_ne _ _ (by omega), va_up_ne _ _ (by omega), va_up_ne _ _ (by omega), va_up_ne _ _ (by omega), va_up_ne _ _ (by omega)]
/-- both are alike at the start -/
theorem Rel_0 : Rel 38 0 i3f rI0 l3f (fun _ _ => 0) := by
  refine ⟨fun _ => 0, 0, fun _ => m0f, fun _ => 0, 0, ⟨⟨perRel.none fc_8_0 (r0_o (by decide) (by decide) _), perRel.none fc_13_0 (r0_o (by decide) (by decide) _), perRel.none fc_18_0 (r0_o (by decide) (by decide) _)⟩, ⟨rfl, rfl⟩, ⟨0, by decide, rfl, rfl, fun i hi => absurd hi (Nat.not_lt_zero i)⟩, rfl⟩, ⟨⟨rfl, fun k hk => absurd hk (Nat.not_lt_zero k), fun k _ q _ => m0_okV q, fun _ _ => rfl⟩, ⟨by decide, rfl, rfl, fun i hi => absurd hi (Nat.not_lt_zero i)⟩, Nat.le_refl _, by decide, Or.inl ⟨rfl, rfl⟩, rfl, rfl, fun r _ => ?_, fun k _ => ⟨m0_rt, 38, i3f, Or.inl rfl, kpT_0⟩⟩, ⟨mK_0, kpT_0, kwS_l3f, rulK.mk' seaT_0 prG_0 ?_⟩, resR.zero rfl rfl rfl rfl rfl rfl rfl rfl⟩
  · rw [i3_0 (by decide) (by decide) (by decide), r0_o (by decide) (by decide)]
  · rw [i3_0 (by decide) (by decide) (by decide)]
theorem RelS_0 : RelS 0 SC0 SR0 := RelS.mk (Or.inl ⟨rfl, rfl⟩) (Nat.le_refl _) Rel_0
end SECO
