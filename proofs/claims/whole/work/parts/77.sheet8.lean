/-! SHEETS: sheet() is answered alike -/
section SHEET8
variable {d e : Nat} {I J : Nat → Nat → Int32} {L L' : Nat → Nat → Int64} {pa pb pu pw : Option Nat}
theorem i_six {x : Int32} (h0 : ¬ x < 0) (h1 : ¬ 5 < x) : ∃ k : Nat, k < 6 ∧ x = nI k := i_small h0 (i_lt6 h1) (by decide)
/-- what both know of the sheets -/
def sheetRel (I J : Nat → Nat → Int32) : Prop := ∃ w h o, shIn w h o I J
theorem sheet_ask (h0 : I 0 11 = J 0 18) (hk : I 83 0 = J 0 87) (hb : I 83 0 ≠ 0 → pieceRel I J ∧ sheetRel I J) (hr : rCst J) (x y : Int32) : ∃ I' J', frC' I I' ∧ frR J J' ∧ jAsk (jv (d + 5) 205 0 [some (.ref 0), some (.int x), some (.int y)] [] (shC, I, L, pX pa pb pu pw)) (jv (e + 2) 339 0 [some (.ref 0), some (.int x), some (.int y), none, none, none, none] [] (shR, J, L', pR)) (shC, I', L, pX pa pb pu pw) (shR, J', L', pR) := by
  have same : jAsk (jv (d + 5) 205 0 [some (.ref 0), some (.int x), some (.int y)] [] (shC, I, L, pX pa pb pu pw)) (jv (e + 2) 339 0 [some (.ref 0), some (.int x), some (.int y), none, none, none, none] [] (shR, J, L', pR)) (shC, I, L, pX pa pb pu pw) (shR, J, L', pR) → ∃ I' J', frC' I I' ∧ frR J J' ∧ jAsk (jv (d + 5) 205 0 [some (.ref 0), some (.int x), some (.int y)] [] (shC, I, L, pX pa pb pu pw)) (jv (e + 2) 339 0 [some (.ref 0), some (.int x), some (.int y), none, none, none, none] [] (shR, J, L', pR)) (shC, I', L, pX pa pb pu pw) (shR, J', L', pR) := fun q => ⟨I, J, ⟨fun _ _ _ _ => rfl, fun _ _ _ => rfl⟩, fun _ _ _ => rfl, q⟩
  rw [B205_0, B339_0] at same ⊢
  by_cases x0 : x < 0
  · rw [if_pos x0, if_pos x0, B205_19, B339_18] at same
    rw [if_pos x0, if_pos x0, B205_19, B339_18]
    exact same ⟨_, rfl, rfl⟩
  rw [if_neg x0, if_neg x0] at same ⊢
  by_cases x5 : 5 < x
  · rw [if_neg (i_nlt6 x5), if_pos x5, B205_19, B339_18] at same ⊢
    exact same ⟨_, rfl, rfl⟩
  rw [if_pos (i_lt6 x5), if_neg x5] at same ⊢
  by_cases y0 : y < 0
  · rw [if_pos y0, if_pos y0, B205_19, B339_18] at same ⊢
    exact same ⟨_, rfl, rfl⟩
  rw [if_neg y0, if_neg y0] at same ⊢
  by_cases y5 : 5 < y
  · rw [if_pos y5, if_pos y5, B205_19, B339_18] at same ⊢
    exact same ⟨_, rfl, rfl⟩
  rw [if_neg y5, if_neg y5, h0] at same ⊢
  by_cases hd : J 0 18 = 0
  · rw [if_pos hd, if_pos hd, hk] at same ⊢
    by_cases hz : J 0 87 = 0
    · rw [if_pos hz, if_pos hz, B205_55] at same ⊢
      exact same ⟨_, rfl, rfl⟩
    rw [if_neg hz, if_neg hz] at same ⊢
    obtain ⟨⟨n, hn, r1, r2, r3, r4⟩, w, h, o, H⟩ := hb (by rw [hk]; exact hz)
    obtain ⟨s, hs, rfl⟩ := i_six x0 x5
    obtain ⟨k, hk6, rfl⟩ := i_six y0 y5
    have go : ∀ (v : Int32) (I' : Nat → Nat → Int32), jv (d + 4) 121 0 [some (.ref 83), some (.int (nI s)), some (.int (nI k))] [] (shC, I, L, pX pa pb pu pw) = some (some (.int v), (shC, I', L, pX pa pb pu pw)) → jgo jTT jMM (d + 5) 121 [.ref 83, .int (nI s), .int (nI k)] (shC, I, L, pX pa pb pu pw) (fun v S => jv (d + 5) 205 50 [some (.ref 0), some (.int (nI s)), some (.int (nI k))] (v.toList ++ []) S) = some (some (.int v), (shC, I', L, pX pa pb pu pw)) := fun v I' q => by
      rw [jgo_some (d := d + 4) rfl q]
      dsimp only [Option.toList_some, List.cons_append, List.nil_append]
      rw [B205_50, B205_55]
    obtain ⟨w1, w2, w3⟩ := wk_same H s
    rcases (show k = 0 ∨ k = 1 ∨ k = 2 ∨ k = 3 ∨ k = 4 ∨ k = 5 by omega) with rfl | rfl | rfl | rfl | rfl | rfl
    · refine same ⟨.int (nI (onN J s n)), go _ _ ?_, ?_⟩
      · rw [B121_0, if_pos (by decide), jgo_some (d := d + 3) rfl (c0_all hn r1 (fun k hk => (r4 k hk).2.1))]
        dsimp only [Option.toList_some, List.cons_append, List.nil_append]
        rw [B121_41]
      · rw [if_pos (by decide)]
        exact r0_all hn r2 _ _
    · refine same ⟨.int (nI (wky (sh1 o s) w h 0)), go _ _ ?_, ?_⟩
      · rw [B121_0, if_neg (by decide), if_pos (by decide), jgo_some (d := d + 3) rfl (c1_all H hs)]
        dsimp only [Option.toList_some, List.cons_append, List.nil_append]
        rw [B121_47]
      · rw [if_neg (by decide), if_neg (by decide), ← w1]
        exact r_all H hs (by decide) (by decide) _ _
    · refine same ⟨.int (nI (wky (sh2 o s) w h 0)), go _ _ ?_, ?_⟩
      · rw [B121_0, if_neg (by decide), if_neg (by decide), if_pos (by decide), jgo_some (d := d + 3) rfl (c2_all H hs)]
        dsimp only [Option.toList_some, List.cons_append, List.nil_append]
        rw [B121_53]
      · rw [if_neg (by decide), if_neg (by decide), ← w2]
        exact r_all H hs (by decide) (by decide) _ _
    · refine same ⟨.int (nI (wky (sh3 o s) (w + 1) (h + 1) 0)), go _ _ ?_, ?_⟩
      · rw [B121_0, if_neg (by decide), if_neg (by decide), if_neg (by decide), if_pos (by decide), jgo_some (d := d + 3) rfl (c3_all H hs)]
        dsimp only [Option.toList_some, List.cons_append, List.nil_append]
        rw [B121_59]
      · rw [if_neg (by decide), if_neg (by decide), ← w3]
        exact r_all H hs (by decide) (by decide) _ _
    · obtain ⟨gn, mx, I', J', f1, f2, e6, e7, a1, a2⟩ := rest_sim (d := d) (e := e) (L := L) (L' := L') (pa := pa) (pb := pb) (pu := pu) (pw := pw) H hr hs 0
      refine ⟨I', J', f1, f2, .int (nI gn), go _ _ ?_, ?_⟩
      · rw [B121_0, if_neg (by decide), if_neg (by decide), if_neg (by decide), if_neg (by decide), if_pos (by decide), jgo_some (d := d + 3) rfl a1]
        dsimp only [Option.toList_none, List.nil_append]
        rw [B121_65, e6]
      · rw [if_neg (by decide), if_pos (by decide), if_neg (by decide), B339_102, jgo_some (d := e + 1) rfl a2]
        dsimp only [Option.toList_some, List.cons_append, List.nil_append]
        rw [B339_105, if_pos rfl]
    · obtain ⟨gn, mx, I', J', f1, f2, e6, e7, a1, a2⟩ := rest_sim (d := d) (e := e) (L := L) (L' := L') (pa := pa) (pb := pb) (pu := pu) (pw := pw) H hr hs 1
      refine ⟨I', J', f1, f2, .int (nI mx), go _ _ ?_, ?_⟩
      · rw [B121_0, if_neg (by decide), if_neg (by decide), if_neg (by decide), if_neg (by decide), if_neg (by decide), jgo_some (d := d + 3) rfl a1]
        dsimp only [Option.toList_none, List.nil_append]
        rw [B121_75, e7]
      · rw [if_neg (by decide), if_pos (by decide), if_pos (by decide), B339_102, jgo_some (d := e + 1) rfl a2]
        dsimp only [Option.toList_some, List.cons_append, List.nil_append]
        rw [B339_105, if_neg (by decide)]
  · rw [if_neg hd, if_neg hd] at same ⊢
    exact same ⟨_, rfl, rfl⟩
end SHEET8
