/-! MORE CALLS: told, model, step, task, piece; crash -/
def b01 (x : Int32) : Int32 := if x = 0 then 0 else 1
section ASK2
variable {d e : Nat} {I J : Nat → Nat → Int32} {L L' : Nat → Nat → Int64} {pa pb pu pw : Option Nat} {K : Option Value → jS → jO}
theorem tra_c : jv d 184 0 [some (.ref 0), none, none] [] (shC, I, L, pX pa pb pu pw) = some (some (.int (0 + b01 (I 8 0) + b01 (I 13 0) + b01 (I 18 0))), (shC, I, L, pX pa pb pu pw)) := by
  have s0 : ∀ n, jv d 184 4 [some (.ref 0), some (.int n), some (.int 0)] [] (shC, I, L, pX pa pb pu pw) = jv d 184 4 [some (.ref 0), some (.int (n + b01 (I 8 0))), some (.int 1)] [] (shC, I, L, pX pa pb pu pw) := fun n => by
    rw [B184_4_i0, if_pos jin_03]
    unfold b01
    by_cases h : I 8 0 = 0
    · rw [if_pos h, if_pos h, B184_27_i0]; rfl
    · rw [if_neg h, if_neg h, B184_27_i0]; rfl
  have s1 : ∀ n, jv d 184 4 [some (.ref 0), some (.int n), some (.int 1)] [] (shC, I, L, pX pa pb pu pw) = jv d 184 4 [some (.ref 0), some (.int (n + b01 (I 13 0))), some (.int 2)] [] (shC, I, L, pX pa pb pu pw) := fun n => by
    rw [B184_4_i1, if_pos jin_13]
    unfold b01
    by_cases h : I 13 0 = 0
    · rw [if_pos h, if_pos h, B184_27_i1]; rfl
    · rw [if_neg h, if_neg h, B184_27_i1]; rfl
  have s2 : ∀ n, jv d 184 4 [some (.ref 0), some (.int n), some (.int 2)] [] (shC, I, L, pX pa pb pu pw) = jv d 184 4 [some (.ref 0), some (.int (n + b01 (I 18 0))), some (.int 3)] [] (shC, I, L, pX pa pb pu pw) := fun n => by
    rw [B184_4_i2, if_pos jin_23]
    unfold b01
    by_cases h : I 18 0 = 0
    · rw [if_pos h, if_pos h, B184_27_i2]; rfl
    · rw [if_neg h, if_neg h, B184_27_i2]; rfl
  rw [B184_0_u, s0, s1, s2, B184_4_i3]
theorem g_tra_c : jgo jTT jMM (d + 1) 184 [.ref 0] (shC, I, L, pX pa pb pu pw) K = K (some (.int (0 + b01 (I 8 0) + b01 (I 13 0) + b01 (I 18 0)))) (shC, I, L, pX pa pb pu pw) := jgo_some rfl tra_c
theorem tra_r (x : Int32) : jv e 241 0 [some (.ref 0), some (.int x), none, none] [] (shR, J, L', pR) = jv e 241 4 [some (.ref 0), some (.int x), some (.int (0 + b01 (J 9 0) + b01 (J 9 1) + b01 (J 9 2))), some (.int (nI 3))] [] (shR, J, L', pR) := by
  have s : ∀ i, i < 3 → ∀ n, jv e 241 4 [some (.ref 0), some (.int x), some (.int n), some (.int (nI i))] [] (shR, J, L', pR) = jv e 241 4 [some (.ref 0), some (.int x), some (.int (n + b01 (J 9 i))), some (.int (nI (i + 1)))] [] (shR, J, L', pR) := fun i hi n => by
    rw [B241_4, if_pos (show nI i < (3 : Int32) from nI_lt hi (by decide)), if_pos (j_in_nI hi (by decide)), nI_clamp (by omega)]
    unfold b01
    by_cases h : J 9 i = 0
    · rw [if_pos h, if_pos h, B241_24, nI_1]
    · rw [if_neg h, if_neg h, B241_24, nI_1]
  rw [B241_0]
  exact (s 0 (by decide) 0).trans ((s 1 (by decide) _).trans (s 2 (by decide) _))
theorem told_ask (h8 : I 0 8 = J 0 15) (h1 : I 23 1 = J 0 17) (h7 : I 0 7 = J 0 20) (h0 : I 0 11 = J 0 18) (hp : persRel I J) (h9 : I 0 9 = J 0 21) (h10 : (if I 0 9 = 0 then -2 else I 0 10) = J 0 22) (x : Int32) : jAsk (jv (d + 1) 183 0 [some (.ref 0), some (.int x)] [] (shC, I, L, pX pa pb pu pw)) (jv e 241 0 [some (.ref 0), some (.int x), none, none] [] (shR, J, L', pR)) (shC, I, L, pX pa pb pu pw) (shR, J, L', pR) := by
  have z0 : Int32.ofInt 0 = 0 := rfl
  have z1 : Int32.ofInt 1 = 1 := rfl
  have z2 : Int32.ofInt 2 = 2 := rfl
  have z3 : Int32.ofInt 3 = 3 := rfl
  have z4 : Int32.ofInt 4 = 4 := rfl
  have z5 : Int32.ofInt 5 = 5 := rfl
  have z6 : Int32.ofInt 6 = 6 := rfl
  rw [B183_0, tra_r, B241_4, if_neg (show ¬ nI 3 < (3 : Int32) by decide), z0, z1, z2, z3, z4, z5, z6, g_tra_c, hp.1.1, hp.2.1.1, hp.2.2.1]
  by_cases x0 : x = 0
  · rw [if_pos x0, if_pos x0, B241_122, h8]; exact ⟨_, rfl, rfl⟩
  rw [if_neg x0, if_neg x0]
  by_cases x1 : x = 1
  · rw [if_pos x1, if_pos x1, B241_122, h1]; exact ⟨_, rfl, rfl⟩
  rw [if_neg x1, if_neg x1]
  by_cases x2 : x = 2
  · rw [if_pos x2, if_pos x2, B241_122, h7]; exact ⟨_, rfl, rfl⟩
  rw [if_neg x2, if_neg x2]
  by_cases x3 : x = 3
  · rw [if_pos x3, if_pos x3, h0]
    by_cases hd : J 0 18 = 0
    · rw [if_pos hd, if_pos hd, B183_74, B241_122]; exact ⟨_, rfl, rfl⟩
    · rw [if_neg hd, if_neg hd, B183_74, B241_122]; exact ⟨_, rfl, rfl⟩
  rw [if_neg x3, if_neg x3]
  by_cases x4 : x = 4
  · rw [if_pos x4, if_pos x4]
    dsimp only [Option.toList_some, List.cons_append, List.nil_append]
    rw [B183_79, B241_122]; exact ⟨_, rfl, rfl⟩
  rw [if_neg x4, if_neg x4]
  by_cases x5 : x = 5
  · rw [if_pos x5, if_pos x5, B241_122, h9]; exact ⟨_, rfl, rfl⟩
  rw [if_neg x5, if_neg x5]
  by_cases x6 : x = 6
  · rw [if_pos x6, if_pos x6, B241_122, ← h10]
    by_cases hf : I 0 9 = 0
    · rw [if_pos hf, if_pos hf, B183_101]; exact ⟨_, rfl, rfl⟩
    · rw [if_neg hf, if_neg hf, B183_101]; exact ⟨_, rfl, rfl⟩
  rw [if_neg x6, if_neg x6, B241_122]; exact ⟨_, rfl, rfl⟩
theorem model_ask (h0 : I 0 11 = J 0 18) (hm : ∀ q, q < 1189 → I 2 q = J 6 q) (hc : rCst J) (t r f : Int32) : jAsk (jv (d + 1) 179 0 [some (.ref 0), some (.int t), some (.int r), some (.int f)] [] (shC, I, L, pX pa pb pu pw)) (jv (e + 1) 236 0 [some (.ref 0), some (.int t), some (.int r), some (.int f)] [] (shR, J, L', pR)) (shC, I, L, pX pa pb pu pw) (shR, J, L', pR) := by
  rw [B179_0, g_pl_c, B236_0, g_pl_r hc]
  dsimp only [Option.toList_some, List.cons_append, List.nil_append]
  rw [B179_6, B236_7]
  by_cases h3 : plv t r f = 0
  · rw [if_pos h3, if_pos h3]; exact ⟨_, rfl, rfl⟩
  rw [if_neg h3, if_neg h3, h0]
  obtain ⟨a, b, c, ha, hb, hf, rfl, rfl, rfl⟩ := plv_1 h3
  have hp := place_lt ha hb hf
  by_cases hd : J 0 18 = 0
  · rw [if_pos hd, if_pos hd, jgo_some (d := d) rfl (of_1 ha hb hf none), g_atN hc ha]
    dsimp only [Option.toList_some, List.cons_append, List.nil_append]
    rw [B179_33, B236_35, if_pos (j_in_nI hp (by decide)), nI_clamp (by omega), B236_36, hm _ hp]
    exact ⟨_, rfl, rfl⟩
  · rw [if_neg hd, if_neg hd, B179_33, B236_36]; exact ⟨_, rfl, rfl⟩
theorem step_ask (h0 : I 0 11 = J 0 18) (hk : I 96 0 = J 0 107) (hb : I 96 0 ≠ 0 → wayRel I J) (x y : Int32) : jAsk (jv (d + 1) 210 0 [some (.ref 0), some (.int x), some (.int y)] [] (shC, I, L, pX pa pb pu pw)) (jv e 355 0 [some (.ref 0), some (.int x), some (.int y)] [] (shR, J, L', pR)) (shC, I, L, pX pa pb pu pw) (shR, J, L', pR) := by
  rw [B210_0, B355_0, if_pos (show j_in (9 : Int32) 13 = true by decide), z0_9]
  by_cases h : x < 0
  · rw [if_pos h, if_pos h, B210_18, B355_13]; exact ⟨_, rfl, rfl⟩
  rw [if_neg h, if_neg h]
  by_cases h6 : x < 6
  · obtain ⟨p, hp, rfl⟩ := i_small (n := 6) h h6 (by decide)
    have jp : j_in (nI p) 6 = true := j_in_nI hp (by decide)
    rw [if_pos h6, if_neg (i_le5 h6)]
    by_cases hy : y < 0
    · rw [if_pos hy, if_pos hy, B210_18, B355_13]; exact ⟨_, rfl, rfl⟩
    rw [if_neg hy, if_neg hy, ← h0, ← hk]
    by_cases hd : I 0 11 = 0
    · rw [if_pos hd, if_pos hd, g_hasWay_c hp]
      dsimp only [Option.toList_some, List.cons_append, List.nil_append]
      rw [B210_38, nI_clamp (n := p) (by omega)]
      by_cases hn : I 96 0 = 0
      · rw [if_pos hn, if_pos rfl, if_pos hn, B355_41, B355_72]; exact ⟨_, rfl, rfl⟩
      · obtain ⟨r1, r2⟩ := hb hn p hp
        rw [if_neg hn, if_neg hn, r1]
        simp only [jp, ↓reduceIte]
        by_cases hw : J 62 p < 0
        · rw [if_pos hw, if_pos rfl, if_pos hw, B355_41, B355_72]; exact ⟨_, rfl, rfl⟩
        · obtain ⟨r3, r4, n, hn6, r5, r6⟩ := r2 hw
          rw [if_neg hw, if_neg (by decide), if_neg hw, r3, r5]
          by_cases hyn : y < nI n
          · obtain ⟨k, hkn, rfl⟩ := i_small hy hyn (by omega)
            have a1 : nI p * 1600 + nI k = nI (p * 1600 + k) := by rw [show (1600 : Int32) = nI 1600 from rfl, nI_mul, nI_add]
            have a2 : (1600 : Int32) * nI p + nI k = nI (1600 * p + k) := by rw [show (1600 : Int32) = nI 1600 from rfl, nI_mul, nI_add]
            rw [if_pos hyn, if_pos hyn, a1, a2, if_pos (show j_in (nI (p * 1600 + k)) 9600 = true from j_in_nI (by omega) (by decide)), if_pos (show j_in (nI (1600 * p + k)) 9600 = true from j_in_nI (by omega) (by decide)), B210_76, B355_72, nI_clamp (n := p * 1600 + k) (by omega), nI_clamp (n := 1600 * p + k) (by omega), r6 k hkn]
            exact ⟨_, rfl, rfl⟩
          · rw [if_neg hyn, if_neg hyn, B210_76, B355_72]; exact ⟨_, rfl, rfl⟩
    · rw [if_neg hd, if_neg hd]; exact ⟨_, rfl, rfl⟩
  · rw [if_neg h6, if_pos (by
      apply Classical.byContradiction
      intro q
      exact h6 (i_lt6 q)), B210_18, B355_13]
    exact ⟨_, rfl, rfl⟩
/-- what both know of the plan -/
def planRel (I J : Nat → Nat → Int32) : Prop := (I 107 5 < 0 ∧ J 0 121 < 0) ∨ (¬ I 107 5 < 0 ∧ I 107 5 = J 0 121 ∧ ∀ t, t < 7 → (J 6 (844 + t * 5) = 0 → I 111 t < 0) ∧ (¬ J 6 (844 + t * 5) = 0 → ¬ I 111 t < 0 ∧ I 110 t = J 72 t ∧ I 111 t = J 73 t))
theorem planned_c {t : Nat} (ht : t < 7) : jv d 133 0 [some (.ref 107), some (.int (nI t))] [] (shC, I, L, pX pa pb pu pw) = some (some (.int (if I 107 1 = 0 then 0 else if I 107 5 < 0 then 0 else if I 111 t < 0 then 0 else 1)), (shC, I, L, pX pa pb pu pw)) := by
  rw [B133_0, nI_clamp (by omega)]
  by_cases h : I 107 1 = 0
  · rw [if_pos h, if_pos h, B133_37, B133_38, if_pos nb0]
  rw [if_neg h, if_neg h]
  by_cases h5 : I 107 5 < 0
  · rw [if_pos h5, if_pos h5, B133_37, B133_38, if_pos nb0]
  rw [if_neg h5, if_neg h5, if_neg (nI_pos (by omega)), if_pos (show nI t < (7 : Int32) from nI_lt ht (by decide)), if_pos (j_in_nI ht (by decide))]
  by_cases h2 : I 111 t < 0
  · rw [if_pos h2, if_pos h2, B133_37, B133_38, if_pos nb0]
  · rw [if_neg h2, if_neg h2, B133_38, if_pos nb1]
theorem g_planned_c {t : Nat} (ht : t < 7) : jgo jTT jMM (d + 1) 133 [.ref 107, .int (nI t)] (shC, I, L, pX pa pb pu pw) K = K (some (.int (if I 107 1 = 0 then 0 else if I 107 5 < 0 then 0 else if I 111 t < 0 then 0 else 1))) (shC, I, L, pX pa pb pu pw) := jgo_some rfl (planned_c ht)
theorem task_ask (h0 : I 0 11 = J 0 18) (hk : I 107 1 = J 0 120) (hb : I 107 1 ≠ 0 → planRel I J) (hc : rCst J) (x y : Int32) : jAsk (jv (d + 1) 212 0 [some (.ref 0), some (.int x), some (.int y)] [] (shC, I, L, pX pa pb pu pw)) (jv (e + 1) 360 0 [some (.ref 0), some (.int x), some (.int y)] [] (shR, J, L', pR)) (shC, I, L, pX pa pb pu pw) (shR, J, L', pR) := by
  rw [B212_0, B360_0, if_pos (show j_in (10 : Int32) 13 = true by decide), z0_10]
  by_cases h : x < 0
  · rw [if_pos h, if_pos h, B212_23, B360_19]; exact ⟨_, rfl, rfl⟩
  rw [if_neg h, if_neg h]
  by_cases h7 : x < 7
  · obtain ⟨t, ht, rfl⟩ := i_small (n := 7) h h7 (by decide)
    have jt : j_in (nI t) 7 = true := j_in_nI ht (by decide)
    rw [if_pos h7, if_neg (i_le6 h7)]
    by_cases hy : y < 0
    · rw [if_pos hy, if_pos hy, B212_23, B360_19]; exact ⟨_, rfl, rfl⟩
    rw [if_neg hy, if_neg hy]
    by_cases hy1 : 1 < y
    · rw [if_pos hy1, if_pos hy1, B212_23, B360_19]; exact ⟨_, rfl, rfl⟩
    rw [if_neg hy1, if_neg hy1, ← h0, ← hk]
    by_cases hd : I 0 11 = 0
    · rw [if_pos hd, if_pos hd, g_planned_c ht]
      dsimp only [Option.toList_some, List.cons_append, List.nil_append]
      rw [B212_43, nI_clamp (n := t) (by omega)]
      by_cases hn : I 107 1 = 0
      · rw [if_pos hn, if_pos rfl, if_pos hn, B360_61, B360_85]; exact ⟨_, rfl, rfl⟩
      · rw [if_neg hn, if_neg hn]
        rcases hb hn with ⟨r1, r2⟩ | ⟨r1, r2, r3⟩
        · rw [if_pos r1, if_pos rfl, if_pos r2, B360_61, B360_85]; exact ⟨_, rfl, rfl⟩
        · have pl := place_lt (a := 10) (b := t) (c := 0) (by decide) ht (by decide)
          rw [if_neg r1, if_neg (show ¬ J 0 121 < 0 by rw [← r2]; exact r1), g_at_10_0 hc]
          dsimp only [Option.toList_some, List.cons_append, List.nil_append]
          rw [B360_57, if_pos (show j_in (nI (844 + t * 5)) 1189 = true from j_in_nI (by omega) (by decide)), nI_clamp (n := 844 + t * 5) (by omega), nI_clamp (n := t) (by omega)]
          obtain ⟨q1, q2⟩ := r3 t ht
          by_cases hz : J 6 (844 + t * 5) = 0
          · rw [if_pos (q1 hz), if_pos rfl, if_pos hz, B360_61, B360_85]; exact ⟨_, rfl, rfl⟩
          · obtain ⟨s1, s2, s3⟩ := q2 hz
            rw [if_neg s1, if_neg (by decide), if_neg hz]
            by_cases y0 : y = 0
            · rw [if_pos y0, if_pos y0, if_pos jt, if_pos jt, B212_74, B360_85, s2]; exact ⟨_, rfl, rfl⟩
            · rw [if_neg y0, if_neg y0, if_pos jt, if_pos jt, B212_74, B360_85, s3]; exact ⟨_, rfl, rfl⟩
    · rw [if_neg hd, if_neg hd]; exact ⟨_, rfl, rfl⟩
  · rw [if_neg h7, if_pos (by
      apply Classical.byContradiction
      intro q
      exact h7 (i_lt7 q)), B212_23, B360_19]
    exact ⟨_, rfl, rfl⟩
end ASK2
