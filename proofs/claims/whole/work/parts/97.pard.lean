/-! RULES: both readers behind a fault -/
section PARD
variable {d e : Nat} {I J : Nat → Nat → Int32} {L L' : Nat → Nat → Int64} {pa pb pu pw : Option Nat}
theorem j_up_id {α : Type} (f : Nat → Nat → α) (a k : Nat) : j_up f a k (f a k) = f := by
  funext x y
  rw [j_up_app]
  by_cases h : x = a
  · subst h
    by_cases h2 : y = k
    · subst h2; simp
    · simp [h2]
  · simp [h]
theorem Int32_add0 (x : Int32) : x + 0 = x := by rw [← Int32.toInt_inj, Int32.toInt_add]; simp
/-- what a reader behind a fault changes: nodes from nc on -/
def cfr (g nc : Nat) (I I' : Nat → Nat → Int32) : Prop := (∀ c, c < g ∨ g + 5 < c → I' c = I c) ∧ (∀ c, c < 5 → ∀ i, i < nc → I' (g + 1 + c) i = I (g + 1 + c) i) ∧ (∀ q, q ≠ 10 → I' g q = I g q) ∧ ∃ nc', nc ≤ nc' ∧ nc' ≤ 1201 ∧ I' g 10 = nI nc'
theorem cfr.refl {g nc : Nat} (h : nc ≤ 1201) (h' : I g 10 = nI nc) : cfr g nc I I := ⟨fun _ _ => rfl, fun _ _ _ _ => rfl, fun _ _ => rfl, nc, Nat.le_refl _, h, h'⟩
theorem adC_cfr {g nc : Nat} (h : nc < 1201) (a b x y z : Int32) : cfr g nc I (adC g I nc a b x y z) := by
  refine ⟨fun c hc => ?_, fun c hc i hi => ?_, fun q hq => ?_, nc + 1, by omega, by omega, ?_⟩
  · unfold adC; rw [j_up_cell _ (by omega), j_up_cell _ (by omega), j_up_cell _ (by omega), j_up_cell _ (by omega), j_up_cell _ (by omega), j_up_cell _ (by omega)]
  · have e : ∀ (F : Nat → Nat → Int32) (k : Nat) v, j_up F k nc v (g + 1 + c) i = F (g + 1 + c) i := fun F k v => by
      rw [j_up_app]
      by_cases q : g + 1 + c = k
      · rw [if_pos q, if_neg (by omega), q]
      · rw [if_neg q]
    unfold adC
    rw [j_up_cell _ (by omega), e, e, e, e, e]
  · unfold adC; rw [j_up_own, if_neg hq, j_up_cell _ (by omega), j_up_cell _ (by omega), j_up_cell _ (by omega), j_up_cell _ (by omega), j_up_cell _ (by omega)]
  · unfold adC; rw [j_up_own, if_pos rfl]
theorem name_cf {d : Nat} (h0 : I 27 0 ≠ 0) (o1 o2 : Option Value) : jv (d + 1) 19 0 [some (.ref 27), o1, o2] [] (shC, I, L, pX pa pb pu pw) = some (some (.long 0), (shC, I, L, pX pa pb pu pw)) := by
  rw [B19_0, jgo_some (d := d) rfl (now_cf h0 _)]
  dsimp only [Option.toList_some, Option.toList_none, List.cons_append, List.nil_append]
  rw [B19_6, if_pos rfl, jgo_some (d := d) rfl (fail_cf h0 _ _)]
  dsimp only [Option.toList_some, Option.toList_none, List.cons_append, List.nil_append]
  rw [B19_18]
theorem factor_rf (h0 : J 0 29 ≠ 0) (l1 : Int32) (o2 o3 o4 o5 : Option Value) : jv e 272 0 [some (.ref 0), some (.int l1), o2, o3, o4, o5] [] (shR, J, L', pR) = some (some (.int 0), (shR, J, L', pR)) := by rw [B272_0, if_neg h0]
theorem product_rf {e : Nat} (h0 : J 0 29 ≠ 0) (l1 : Int32) (o2 o3 : Option Value) : jv (e + 1) 271 0 [some (.ref 0), some (.int l1), o2, o3] [] (shR, J, L', pR) = some (some (.int 0), (shR, J, L', pR)) := by
  rw [B271_0, jgo_some (d := e) rfl (factor_rf h0 _ _ _ _ _)]
  dsimp only [Option.toList_some, Option.toList_none, List.cons_append, List.nil_append]
  rw [B271_5, B271_6, if_neg h0, B271_75]
theorem sum_rf {e : Nat} (h0 : J 0 29 ≠ 0) (l1 : Int32) (o2 o3 : Option Value) : jv (e + 2) 270 0 [some (.ref 0), some (.int l1), o2, o3] [] (shR, J, L', pR) = some (some (.int 0), (shR, J, L', pR)) := by
  rw [B270_0, jgo_some (d := e + 1) rfl (product_rf h0 _ _ _)]
  dsimp only [Option.toList_some, Option.toList_none, List.cons_append, List.nil_append]
  rw [B270_5, B270_6, if_neg h0, B270_75]
theorem not_rf (h0 : J 0 29 ≠ 0) (l1 : Int32) (o2 o3 : Option Value) : jv e 269 0 [some (.ref 0), some (.int l1), o2, o3] [] (shR, J, L', pR) = some (some (.int 0), (shR, J, L', pR)) := by rw [B269_0, if_neg h0]
theorem and_rf {e : Nat} (h0 : J 0 29 ≠ 0) (l1 : Int32) (o2 : Option Value) : jv (e + 1) 268 0 [some (.ref 0), some (.int l1), o2] [] (shR, J, L', pR) = some (some (.int 0), (shR, J, L', pR)) := by
  rw [B268_0, jgo_some (d := e) rfl (not_rf h0 _ _ _)]
  dsimp only [Option.toList_some, Option.toList_none, List.cons_append, List.nil_append]
  rw [B268_5, B268_6, if_neg h0, B268_51]
theorem or_rf {e : Nat} (h0 : J 0 29 ≠ 0) (l1 : Int32) (o2 : Option Value) : jv (e + 2) 267 0 [some (.ref 0), some (.int l1), o2] [] (shR, J, L', pR) = some (some (.int 0), (shR, J, L', pR)) := by
  rw [B267_0, jgo_some (d := e + 1) rfl (and_rf h0 _ _)]
  dsimp only [Option.toList_some, Option.toList_none, List.cons_append, List.nil_append]
  rw [B267_5, B267_6, if_neg h0, B267_51]
theorem factor_cf38 {d : Nat} (h0 : I 27 0 ≠ 0) (l1 : Int32) (o2 : Option Value) : jv (d + 1) 27 0 [some (.ref 27), some (.int l1), o2] [] (shC, I, L, pX pa pb (some 38) pw) = some (some (.int (-1)), (shC, I, L, pX pa pb (some 38) pw)) := by
  rw [B27_0_g38]
  by_cases q : 24 < l1
  · rw [if_pos q, jgo_some (d := d) rfl (fail_cf h0 _ _)]
    dsimp only [Option.toList_some, Option.toList_none, List.cons_append, List.nil_append]
    rw [B27_15_g38]
  · rw [if_neg q, jgo_some (d := d) rfl (now_cf h0 _)]
    dsimp only [Option.toList_some, Option.toList_none, List.cons_append, List.nil_append]
    rw [B27_22_g38, if_pos rfl, jgo_some (d := d) rfl (now_cf h0 _)]
    dsimp only [Option.toList_some, Option.toList_none, List.cons_append, List.nil_append]
    rw [B27_61_g38, if_pos rfl, jgo_some (d := d) rfl (now_cf h0 _)]
    dsimp only [Option.toList_some, Option.toList_none, List.cons_append, List.nil_append]
    rw [B27_104_g38, if_pos rfl, jgo_some (d := d) rfl (now_cf h0 _)]
    dsimp only [Option.toList_some, Option.toList_none, List.cons_append, List.nil_append]
    rw [B27_119_g38, if_pos rfl, jgo_some (d := d) rfl (fail_cf h0 _ _)]
    dsimp only [Option.toList_some, Option.toList_none, List.cons_append, List.nil_append]
    rw [B27_131_g38]
theorem product_cf38 {d : Nat} (h0 : I 27 0 ≠ 0) (l1 : Int32) (o2 o3 o4 o5 o6 : Option Value) : jv (d + 2) 26 0 [some (.ref 27), some (.int l1), o2, o3, o4, o5, o6] [] (shC, I, L, pX pa pb (some 38) pw) = some (some (.int (-1)), (shC, I, L, pX pa pb (some 38) pw)) := by
  rw [B26_0_g38, jgo_some (d := d + 1) rfl (factor_cf38 h0 _ _)]
  dsimp only [Option.toList_some, Option.toList_none, List.cons_append, List.nil_append]
  rw [B26_5_g38, B26_11_g38]
  by_cases q : 0 < I 27 6
  · rw [if_pos q, jgo_some (d := d + 1) rfl (now_cf h0 _)]
    dsimp only [Option.toList_some, Option.toList_none, List.cons_append, List.nil_append]
    rw [B26_26_g38, if_pos rfl, jgo_some (d := d + 1) rfl (now_cf h0 _)]
    dsimp only [Option.toList_some, Option.toList_none, List.cons_append, List.nil_append]
    rw [B26_35_g38, if_pos rfl, B26_97_g38]
  · rw [if_neg q, B26_97_g38]
theorem sum_cf38 {d : Nat} (h0 : I 27 0 ≠ 0) (l1 : Int32) (o2 o3 o4 o5 o6 : Option Value) : jv (d + 3) 25 0 [some (.ref 27), some (.int l1), o2, o3, o4, o5, o6] [] (shC, I, L, pX pa pb (some 38) pw) = some (some (.int (-1)), (shC, I, L, pX pa pb (some 38) pw)) := by
  rw [B25_0_g38, jgo_some (d := d + 2) rfl (product_cf38 h0 _ _ _ _ _ _)]
  dsimp only [Option.toList_some, Option.toList_none, List.cons_append, List.nil_append]
  rw [B25_5_g38, B25_11_g38]
  by_cases q : 0 < I 27 6
  · rw [if_pos q, jgo_some (d := d + 2) rfl (now_cf h0 _)]
    dsimp only [Option.toList_some, Option.toList_none, List.cons_append, List.nil_append]
    rw [B25_26_g38, if_pos rfl, jgo_some (d := d + 2) rfl (now_cf h0 _)]
    dsimp only [Option.toList_some, Option.toList_none, List.cons_append, List.nil_append]
    rw [B25_35_g38, if_pos rfl, B25_97_g38]
  · rw [if_neg q, B25_97_g38]
theorem brack_cf38 {d : Nat} (h0 : I 27 0 ≠ 0) (l1 : Int32) (o2 : Option Value) : jv (d + 4) 28 0 [some (.ref 27), some (.int l1), o2] [] (shC, I, L, pX pa pb (some 38) pw) = some (some (.int (-1)), (shC, I, L, pX pa pb (some 38) pw)) := by
  rw [B28_0, jgo_some (d := d + 3) rfl (expect_cf h0 _)]
  dsimp only [Option.toList_some, Option.toList_none, List.cons_append, List.nil_append]
  rw [B28_6, jgo_some (d := d + 3) rfl (sum_cf38 h0 _ _ _ _ _ _)]
  dsimp only [Option.toList_some, Option.toList_none, List.cons_append, List.nil_append]
  rw [B28_14, jgo_some (d := d + 3) rfl (expect_cf h0 _)]
  dsimp only [Option.toList_some, Option.toList_none, List.cons_append, List.nil_append]
  rw [B28_21]
theorem neg_cf38 {d now nc : Nat} (h0 : I 27 0 ≠ 0) (h7 : I 27 7 = nI now) (hn : now ≤ 1200) (hg : I 38 10 = nI nc) (hc : nc ≤ 1201) (l1 : Int32) (o2 o3 : Option Value) : ∃ x I', jv (d + 4) 24 0 [some (.ref 27), some (.int l1), o2, o3] [] (shC, I, L, pX pa pb (some 38) pw) = some (some (.int x), (shC, I', L, pX pa pb (some 38) pw)) ∧ cfr 38 nc I I' := by
  rw [B24_0_g38]
  by_cases q : 24 < l1
  · refine ⟨-1, I, ?_, cfr.refl hc hg⟩
    rw [if_pos q, jgo_some (d := d + 3) rfl (fail_cf h0 _ _)]
    dsimp only [Option.toList_some, Option.toList_none, List.cons_append, List.nil_append]
    rw [B24_15_g38]
  have s1 : jv (d + 4) 24 61 [some (.ref 27), some (.int l1), o2, o3] [.int 0] (shC, I, L, pX pa pb (some 38) pw) = jv (d + 4) 24 98 [some (.ref 27), some (.int l1), o2, o3] [.int (-1)] (shC, I, L, pX pa pb (some 38) pw) := by
    rw [B24_61_g38, if_pos rfl, jgo_some (d := d + 3) rfl (sum_cf38 h0 _ _ _ _ _ _)]
    rfl
  have s2 : ∀ (k : Int32), ∃ x I', jv (d + 4) 24 155 [some (.ref 27), some (.int l1), some (.int (-1)), some (.int k)] [] (shC, I, L, pX pa pb (some 38) pw) = some (some (.int x), (shC, I', L, pX pa pb (some 38) pw)) ∧ cfr 38 nc I I' := by
    intro k
    rw [B24_155_g38, if_neg h0, B24_172_g38, Int32_add0, j_up_id, jgo_some (d := d + 3) rfl (sum_cf38 h0 _ _ _ _ _ _)]
    dsimp only [Option.toList_some, Option.toList_none, List.cons_append, List.nil_append]
    rw [B24_191_g38]
    rcases Nat.lt_or_eq_of_le hc with z | z
    · refine ⟨nI nc, _, ?_, adC_cfr z 15 k (-1) (-1) (-1)⟩
      rw [jgo_some (d := d + 3) rfl (add_c38 hg z _ _ _ _ _)]
      dsimp only [Option.toList_some, Option.toList_none, List.cons_append, List.nil_append]
      rw [B24_195_g38]
    · refine ⟨-1, I, ?_, cfr.refl hc hg⟩
      rw [jgo_some (d := d + 3) rfl (add_f38 (by rw [hg, z]) _ _ _ _ _)]
      dsimp only [Option.toList_some, Option.toList_none, List.cons_append, List.nil_append]
      rw [B24_195_g38]
  rw [if_neg q, jgo_some (d := d + 3) rfl (nowkey_cf (d := d + 2) h0 _)]
  dsimp only [Option.toList_some, Option.toList_none, List.cons_append, List.nil_append]
  rw [B24_22_g38, if_pos rfl, jgo_some (d := d + 3) rfl (now_cf h0 _)]
  dsimp only [Option.toList_some, Option.toList_none, List.cons_append, List.nil_append]
  rw [s1, B24_98_g38, h7, if_pos (j_in_nI (by omega) (by decide)), nI_clamp (by omega)]
  by_cases q1 : I 28 now = 61
  · rw [if_pos q1]; exact s2 _
  rw [if_neg q1]
  by_cases q2 : I 28 now = 35
  · rw [if_pos q2]; exact s2 _
  rw [if_neg q2]
  by_cases q3 : I 28 now = 60
  · rw [if_pos q3]; exact s2 _
  rw [if_neg q3]
  by_cases q4 : I 28 now = 62
  · rw [if_pos q4]; exact s2 _
  rw [if_neg q4]
  by_cases q5 : I 28 now = 108
  · rw [if_pos q5]; exact s2 _
  rw [if_neg q5]
  by_cases q6 : I 28 now = 103
  · rw [if_pos q6]; exact s2 _
  rw [if_neg q6]
  refine ⟨-1, I, ?_, cfr.refl hc hg⟩
  rw [jgo_some (d := d + 3) rfl (fail_cf h0 _ _)]
  dsimp only [Option.toList_some, Option.toList_none, List.cons_append, List.nil_append]
  rw [B24_154_g38]
theorem both_cf38 {d now nc : Nat} (h0 : I 27 0 ≠ 0) (h7 : I 27 7 = nI now) (hn : now ≤ 1200) (hg : I 38 10 = nI nc) (hc : nc ≤ 1201) (l1 : Int32) (o2 o3 o4 o5 : Option Value) : ∃ x I', jv (d + 5) 22 0 [some (.ref 27), some (.int l1), o2, o3, o4, o5] [] (shC, I, L, pX pa pb (some 38) pw) = some (some (.int x), (shC, I', L, pX pa pb (some 38) pw)) ∧ cfr 38 nc I I' := by
  obtain ⟨x, I1, e1, e2⟩ := neg_cf38 (d := d) (L := L) (pa := pa) (pb := pb) (pw := pw) h0 h7 hn hg hc l1 none none
  have h0' : I1 27 0 ≠ 0 := by rw [e2.1 27 (by omega)]; exact h0
  refine ⟨x, I1, ?_, e2⟩
  rw [B22_0_g38, jgo_some (d := d + 4) rfl e1]
  dsimp only [Option.toList_some, Option.toList_none, List.cons_append, List.nil_append]
  rw [B22_5_g38, B22_11_g38]
  by_cases q : 0 < I1 27 6
  · rw [if_pos q, jgo_some (d := d + 4) rfl (nowkey_cf (d := d + 3) h0' _)]
    dsimp only [Option.toList_some, Option.toList_none, List.cons_append, List.nil_append]
    rw [B22_26_g38, if_pos rfl, B22_76_g38]
  · rw [if_neg q, B22_76_g38]
theorem cond_cf38 {d now nc : Nat} (h0 : I 27 0 ≠ 0) (h7 : I 27 7 = nI now) (hn : now ≤ 1200) (hg : I 38 10 = nI nc) (hc : nc ≤ 1201) (l1 : Int32) (o2 o3 o4 o5 : Option Value) : ∃ x I', jv (d + 6) 21 0 [some (.ref 27), some (.int l1), o2, o3, o4, o5] [] (shC, I, L, pX pa pb (some 38) pw) = some (some (.int x), (shC, I', L, pX pa pb (some 38) pw)) ∧ cfr 38 nc I I' := by
  obtain ⟨x, I1, e1, e2⟩ := both_cf38 (d := d) (L := L) (pa := pa) (pb := pb) (pw := pw) h0 h7 hn hg hc l1 none none none none
  have h0' : I1 27 0 ≠ 0 := by rw [e2.1 27 (by omega)]; exact h0
  refine ⟨x, I1, ?_, e2⟩
  rw [B21_0_g38, jgo_some (d := d + 5) rfl e1]
  dsimp only [Option.toList_some, Option.toList_none, List.cons_append, List.nil_append]
  rw [B21_5_g38, B21_11_g38]
  by_cases q : 0 < I1 27 6
  · rw [if_pos q, jgo_some (d := d + 5) rfl (nowkey_cf (d := d + 4) h0' _)]
    dsimp only [Option.toList_some, Option.toList_none, List.cons_append, List.nil_append]
    rw [B21_26_g38, if_pos rfl, B21_76_g38]
  · rw [if_neg q, B21_76_g38]
theorem factor_cf49 {d : Nat} (h0 : I 27 0 ≠ 0) (l1 : Int32) (o2 : Option Value) : jv (d + 1) 27 0 [some (.ref 27), some (.int l1), o2] [] (shC, I, L, pX pa pb (some 49) pw) = some (some (.int (-1)), (shC, I, L, pX pa pb (some 49) pw)) := by
  rw [B27_0_g49]
  by_cases q : 24 < l1
  · rw [if_pos q, jgo_some (d := d) rfl (fail_cf h0 _ _)]
    dsimp only [Option.toList_some, Option.toList_none, List.cons_append, List.nil_append]
    rw [B27_15_g49]
  · rw [if_neg q, jgo_some (d := d) rfl (now_cf h0 _)]
    dsimp only [Option.toList_some, Option.toList_none, List.cons_append, List.nil_append]
    rw [B27_22_g49, if_pos rfl, jgo_some (d := d) rfl (now_cf h0 _)]
    dsimp only [Option.toList_some, Option.toList_none, List.cons_append, List.nil_append]
    rw [B27_61_g49, if_pos rfl, jgo_some (d := d) rfl (now_cf h0 _)]
    dsimp only [Option.toList_some, Option.toList_none, List.cons_append, List.nil_append]
    rw [B27_104_g49, if_pos rfl, jgo_some (d := d) rfl (now_cf h0 _)]
    dsimp only [Option.toList_some, Option.toList_none, List.cons_append, List.nil_append]
    rw [B27_119_g49, if_pos rfl, jgo_some (d := d) rfl (fail_cf h0 _ _)]
    dsimp only [Option.toList_some, Option.toList_none, List.cons_append, List.nil_append]
    rw [B27_131_g49]
theorem product_cf49 {d : Nat} (h0 : I 27 0 ≠ 0) (l1 : Int32) (o2 o3 o4 o5 o6 : Option Value) : jv (d + 2) 26 0 [some (.ref 27), some (.int l1), o2, o3, o4, o5, o6] [] (shC, I, L, pX pa pb (some 49) pw) = some (some (.int (-1)), (shC, I, L, pX pa pb (some 49) pw)) := by
  rw [B26_0_g49, jgo_some (d := d + 1) rfl (factor_cf49 h0 _ _)]
  dsimp only [Option.toList_some, Option.toList_none, List.cons_append, List.nil_append]
  rw [B26_5_g49, B26_11_g49]
  by_cases q : 0 < I 27 6
  · rw [if_pos q, jgo_some (d := d + 1) rfl (now_cf h0 _)]
    dsimp only [Option.toList_some, Option.toList_none, List.cons_append, List.nil_append]
    rw [B26_26_g49, if_pos rfl, jgo_some (d := d + 1) rfl (now_cf h0 _)]
    dsimp only [Option.toList_some, Option.toList_none, List.cons_append, List.nil_append]
    rw [B26_35_g49, if_pos rfl, B26_97_g49]
  · rw [if_neg q, B26_97_g49]
theorem sum_cf49 {d : Nat} (h0 : I 27 0 ≠ 0) (l1 : Int32) (o2 o3 o4 o5 o6 : Option Value) : jv (d + 3) 25 0 [some (.ref 27), some (.int l1), o2, o3, o4, o5, o6] [] (shC, I, L, pX pa pb (some 49) pw) = some (some (.int (-1)), (shC, I, L, pX pa pb (some 49) pw)) := by
  rw [B25_0_g49, jgo_some (d := d + 2) rfl (product_cf49 h0 _ _ _ _ _ _)]
  dsimp only [Option.toList_some, Option.toList_none, List.cons_append, List.nil_append]
  rw [B25_5_g49, B25_11_g49]
  by_cases q : 0 < I 27 6
  · rw [if_pos q, jgo_some (d := d + 2) rfl (now_cf h0 _)]
    dsimp only [Option.toList_some, Option.toList_none, List.cons_append, List.nil_append]
    rw [B25_26_g49, if_pos rfl, jgo_some (d := d + 2) rfl (now_cf h0 _)]
    dsimp only [Option.toList_some, Option.toList_none, List.cons_append, List.nil_append]
    rw [B25_35_g49, if_pos rfl, B25_97_g49]
  · rw [if_neg q, B25_97_g49]
theorem brack_cf49 {d : Nat} (h0 : I 27 0 ≠ 0) (l1 : Int32) (o2 : Option Value) : jv (d + 4) 28 0 [some (.ref 27), some (.int l1), o2] [] (shC, I, L, pX pa pb (some 49) pw) = some (some (.int (-1)), (shC, I, L, pX pa pb (some 49) pw)) := by
  rw [B28_0, jgo_some (d := d + 3) rfl (expect_cf h0 _)]
  dsimp only [Option.toList_some, Option.toList_none, List.cons_append, List.nil_append]
  rw [B28_6, jgo_some (d := d + 3) rfl (sum_cf49 h0 _ _ _ _ _ _)]
  dsimp only [Option.toList_some, Option.toList_none, List.cons_append, List.nil_append]
  rw [B28_14, jgo_some (d := d + 3) rfl (expect_cf h0 _)]
  dsimp only [Option.toList_some, Option.toList_none, List.cons_append, List.nil_append]
  rw [B28_21]
theorem neg_cf49 {d now nc : Nat} (h0 : I 27 0 ≠ 0) (h7 : I 27 7 = nI now) (hn : now ≤ 1200) (hg : I 49 10 = nI nc) (hc : nc ≤ 1201) (l1 : Int32) (o2 o3 : Option Value) : ∃ x I', jv (d + 4) 24 0 [some (.ref 27), some (.int l1), o2, o3] [] (shC, I, L, pX pa pb (some 49) pw) = some (some (.int x), (shC, I', L, pX pa pb (some 49) pw)) ∧ cfr 49 nc I I' := by
  rw [B24_0_g49]
  by_cases q : 24 < l1
  · refine ⟨-1, I, ?_, cfr.refl hc hg⟩
    rw [if_pos q, jgo_some (d := d + 3) rfl (fail_cf h0 _ _)]
    dsimp only [Option.toList_some, Option.toList_none, List.cons_append, List.nil_append]
    rw [B24_15_g49]
  have s1 : jv (d + 4) 24 61 [some (.ref 27), some (.int l1), o2, o3] [.int 0] (shC, I, L, pX pa pb (some 49) pw) = jv (d + 4) 24 98 [some (.ref 27), some (.int l1), o2, o3] [.int (-1)] (shC, I, L, pX pa pb (some 49) pw) := by
    rw [B24_61_g49, if_pos rfl, jgo_some (d := d + 3) rfl (sum_cf49 h0 _ _ _ _ _ _)]
    rfl
  have s2 : ∀ (k : Int32), ∃ x I', jv (d + 4) 24 155 [some (.ref 27), some (.int l1), some (.int (-1)), some (.int k)] [] (shC, I, L, pX pa pb (some 49) pw) = some (some (.int x), (shC, I', L, pX pa pb (some 49) pw)) ∧ cfr 49 nc I I' := by
    intro k
    rw [B24_155_g49, if_neg h0, B24_172_g49, Int32_add0, j_up_id, jgo_some (d := d + 3) rfl (sum_cf49 h0 _ _ _ _ _ _)]
    dsimp only [Option.toList_some, Option.toList_none, List.cons_append, List.nil_append]
    rw [B24_191_g49]
    rcases Nat.lt_or_eq_of_le hc with z | z
    · refine ⟨nI nc, _, ?_, adC_cfr z 15 k (-1) (-1) (-1)⟩
      rw [jgo_some (d := d + 3) rfl (add_c49 hg z _ _ _ _ _)]
      dsimp only [Option.toList_some, Option.toList_none, List.cons_append, List.nil_append]
      rw [B24_195_g49]
    · refine ⟨-1, I, ?_, cfr.refl hc hg⟩
      rw [jgo_some (d := d + 3) rfl (add_f49 (by rw [hg, z]) _ _ _ _ _)]
      dsimp only [Option.toList_some, Option.toList_none, List.cons_append, List.nil_append]
      rw [B24_195_g49]
  rw [if_neg q, jgo_some (d := d + 3) rfl (nowkey_cf (d := d + 2) h0 _)]
  dsimp only [Option.toList_some, Option.toList_none, List.cons_append, List.nil_append]
  rw [B24_22_g49, if_pos rfl, jgo_some (d := d + 3) rfl (now_cf h0 _)]
  dsimp only [Option.toList_some, Option.toList_none, List.cons_append, List.nil_append]
  rw [s1, B24_98_g49, h7, if_pos (j_in_nI (by omega) (by decide)), nI_clamp (by omega)]
  by_cases q1 : I 28 now = 61
  · rw [if_pos q1]; exact s2 _
  rw [if_neg q1]
  by_cases q2 : I 28 now = 35
  · rw [if_pos q2]; exact s2 _
  rw [if_neg q2]
  by_cases q3 : I 28 now = 60
  · rw [if_pos q3]; exact s2 _
  rw [if_neg q3]
  by_cases q4 : I 28 now = 62
  · rw [if_pos q4]; exact s2 _
  rw [if_neg q4]
  by_cases q5 : I 28 now = 108
  · rw [if_pos q5]; exact s2 _
  rw [if_neg q5]
  by_cases q6 : I 28 now = 103
  · rw [if_pos q6]; exact s2 _
  rw [if_neg q6]
  refine ⟨-1, I, ?_, cfr.refl hc hg⟩
  rw [jgo_some (d := d + 3) rfl (fail_cf h0 _ _)]
  dsimp only [Option.toList_some, Option.toList_none, List.cons_append, List.nil_append]
  rw [B24_154_g49]
theorem both_cf49 {d now nc : Nat} (h0 : I 27 0 ≠ 0) (h7 : I 27 7 = nI now) (hn : now ≤ 1200) (hg : I 49 10 = nI nc) (hc : nc ≤ 1201) (l1 : Int32) (o2 o3 o4 o5 : Option Value) : ∃ x I', jv (d + 5) 22 0 [some (.ref 27), some (.int l1), o2, o3, o4, o5] [] (shC, I, L, pX pa pb (some 49) pw) = some (some (.int x), (shC, I', L, pX pa pb (some 49) pw)) ∧ cfr 49 nc I I' := by
  obtain ⟨x, I1, e1, e2⟩ := neg_cf49 (d := d) (L := L) (pa := pa) (pb := pb) (pw := pw) h0 h7 hn hg hc l1 none none
  have h0' : I1 27 0 ≠ 0 := by rw [e2.1 27 (by omega)]; exact h0
  refine ⟨x, I1, ?_, e2⟩
  rw [B22_0_g49, jgo_some (d := d + 4) rfl e1]
  dsimp only [Option.toList_some, Option.toList_none, List.cons_append, List.nil_append]
  rw [B22_5_g49, B22_11_g49]
  by_cases q : 0 < I1 27 6
  · rw [if_pos q, jgo_some (d := d + 4) rfl (nowkey_cf (d := d + 3) h0' _)]
    dsimp only [Option.toList_some, Option.toList_none, List.cons_append, List.nil_append]
    rw [B22_26_g49, if_pos rfl, B22_76_g49]
  · rw [if_neg q, B22_76_g49]
theorem cond_cf49 {d now nc : Nat} (h0 : I 27 0 ≠ 0) (h7 : I 27 7 = nI now) (hn : now ≤ 1200) (hg : I 49 10 = nI nc) (hc : nc ≤ 1201) (l1 : Int32) (o2 o3 o4 o5 : Option Value) : ∃ x I', jv (d + 6) 21 0 [some (.ref 27), some (.int l1), o2, o3, o4, o5] [] (shC, I, L, pX pa pb (some 49) pw) = some (some (.int x), (shC, I', L, pX pa pb (some 49) pw)) ∧ cfr 49 nc I I' := by
  obtain ⟨x, I1, e1, e2⟩ := both_cf49 (d := d) (L := L) (pa := pa) (pb := pb) (pw := pw) h0 h7 hn hg hc l1 none none none none
  have h0' : I1 27 0 ≠ 0 := by rw [e2.1 27 (by omega)]; exact h0
  refine ⟨x, I1, ?_, e2⟩
  rw [B21_0_g49, jgo_some (d := d + 5) rfl e1]
  dsimp only [Option.toList_some, Option.toList_none, List.cons_append, List.nil_append]
  rw [B21_5_g49, B21_11_g49]
  by_cases q : 0 < I1 27 6
  · rw [if_pos q, jgo_some (d := d + 5) rfl (nowkey_cf (d := d + 4) h0' _)]
    dsimp only [Option.toList_some, Option.toList_none, List.cons_append, List.nil_append]
    rw [B21_26_g49, if_pos rfl, B21_76_g49]
  · rw [if_neg q, B21_76_g49]
end PARD
