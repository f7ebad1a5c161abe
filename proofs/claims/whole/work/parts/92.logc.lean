/-! LOG: append() beside take()'s writing -/
section LOGC
variable {d e : Nat} {L L' : Nat → Nat → Int64} {pa pb pu pw : Option Nat}
theorem rec_sim {I J : Nat → Nat → Int32} {a b F : Nat → Int32} {s c : Nat} (hr : rCst J) (hI : ∀ q, q < 1189 → I 2 q = a q) (hI4 : ∀ q, q < 1189 → I 4 q = b q) (hJ : ∀ q, q < 1189 → J 6 q = a q) (hJ7 : ∀ q, q < 1189 → J 7 q = b q) (h15 : J 0 15 = nI c) (hl : lgR s F I J) (m1 m2 m3 : Int32) : (40000 < s + 5 + 6 * chN a b 1189 ∧ jv (d + 2) 39 0 [some (.ref 23), some (.int (nI (c + 1))), some (.ref 1), some (.ref 3), none, none] [] (shC, I, L, pX pa pb pu pw) = some (some (.int 0), (shC, I, L, pX pa pb pu pw)) ∧ ∃ l4 l5, jv (e + 2) 230 77 [some (.ref 0), some (.int m1), some (.int m2), some (.int m3), some (.int (nI 0)), some (.int (nI 0))] [] (shR, J, L', pR) = jgo jTT jMM (e + 2) 261 [.ref 0, .ref 6] (shR, j_up (j_up J 0 21 0) 0 22 (-2), L', pR) (fun v S => jv (e + 2) 230 154 [some (.ref 0), some (.int m1), some (.int m2), some (.int m3), some (.int l4), some (.int l5)] (v.toList ++ []) S)) ∨ (s + 5 + 6 * chN a b 1189 ≤ 40000 ∧ ∃ F' I' J' l4 l5, lgR (s + 5 + 6 * chN a b 1189) F' I' J' ∧ (∀ i, i < s → F' i = F i) ∧ nmV F' (s + 2) 2 = nI (chN a b 1189) ∧ recP F' s a b 1189 ∧ (∀ k, k ≠ 24 → k ≠ 23 → I' k = I k) ∧ (∀ f, f ≠ 1 → I' 23 f = I 23 f) ∧ (∀ k, k ≠ 0 → k ≠ 6 → k ≠ 15 → k ≠ 16 → J' k = J k) ∧ (∀ g, g ≠ 15 → g ≠ 17 → g ≠ 21 → g ≠ 22 → J' 0 g = J 0 g) ∧ J' 0 15 = nI (c + 1) ∧ J' 0 21 = 0 ∧ J' 0 22 = -2 ∧ (∀ q, q < 1189 → J' 6 q = b q) ∧ mkR a b 1189 (c + 1) (J 15) (J' 15) ∧ jv (d + 2) 39 0 [some (.ref 23), some (.int (nI (c + 1))), some (.ref 1), some (.ref 3), none, none] [] (shC, I, L, pX pa pb pu pw) = some (some (.int 1), (shC, I', L, pX pa pb pu pw)) ∧ jv (e + 2) 230 77 [some (.ref 0), some (.int m1), some (.int m2), some (.int m3), some (.int (nI 0)), some (.int (nI 0))] [] (shR, J, L', pR) = jv (e + 2) 230 274 [some (.ref 0), some (.int m1), some (.int m2), some (.int m3), some (.int l4), some (.int l5)] [] (shR, J', L', pR)) := by
  have hn := chN_le a b 1189
  have hs := hl.1
  have eC : nI s + 4 + nI (chN a b 1189) * 6 + 1 = nI (s + 5 + 6 * chN a b 1189) := by
    rw [show nI s + 4 = nI (s + 4) from nI_add s 4, show nI (chN a b 1189) * 6 = nI (chN a b 1189 * 6) from nI_mul _ 6, nI_add, nI_1]
    congr 1
    omega
  have eR : nI s + 5 + 6 * nI (chN a b 1189) = nI (s + 5 + 6 * chN a b 1189) := by
    rw [show nI s + 5 = nI (s + 5) from nI_add s 5, show 6 * nI (chN a b 1189) = nI (6 * chN a b 1189) from nI_mul 6 _, nI_add]
  have j17 : j_up (j_up J 0 21 0) 0 22 (-2) 0 17 = nI s := by rw [j_up_own, if_neg (by decide), j_up_own, if_neg (by decide)]; exact hl.2.2.1
  have kC : jv (d + 2) 39 0 [some (.ref 23), some (.int (nI (c + 1))), some (.ref 1), some (.ref 3), none, none] [] (shC, I, L, pX pa pb pu pw) = jv (d + 2) 39 6 [some (.ref 23), some (.int (nI (c + 1))), some (.ref 1), some (.ref 3), some (.int (nI (chN a b 1189))), some (.int (nI 1189))] [] (shC, I, L, pX pa pb pu pw) := by
    rw [B39_0]
    exact cnt_c (d := d + 1) hI hI4 (nI (c + 1))
  rw [kC, cnt_r hJ hJ7, B39_6, if_neg (show ¬ nI 1189 < 1189 by decide), hl.2.1, eC, B230_77, if_neg (show ¬ nI 1189 < 1189 by decide), j17, eR]
  by_cases q : 40000 < s + 5 + 6 * chN a b 1189
  · refine Or.inl ⟨q, ?_, nI (chN a b 1189), nI 1189, ?_⟩
    · rw [if_pos (show (40000 : Int32) < nI (s + 5 + 6 * chN a b 1189) from nI_lt (a := 40000) q (by omega)), if_pos bl_0]
    · rw [if_pos (show (40000 : Int32) < nI (s + 5 + 6 * chN a b 1189) from nI_lt (a := 40000) q (by omega))]
  · refine Or.inr ⟨by omega, ?_⟩
    have nq : ¬ (40000 : Int32) < nI (s + 5 + 6 * chN a b 1189) := nI_nlt (a := 40000) (by omega) (by decide)
    rw [if_neg nq, if_neg nq]
    have e15 : j_up (j_up J 0 21 0) 0 22 (-2) 0 15 = nI c := by rw [j_up_own, if_neg (by decide), j_up_own, if_neg (by decide)]; exact h15
    rw [e15, nI_1, j_up_self]
    generalize hJ0 : j_up (j_up (j_up J 0 21 0) 0 22 (-2)) 0 15 (nI (c + 1)) = J0
    have f0 : ∀ k, k ≠ 0 → J0 k = J k := fun k hk => by rw [← hJ0, j_up_cell _ hk, j_up_cell _ hk, j_up_cell _ hk]
    have g0 : ∀ g, g ≠ 15 → g ≠ 21 → g ≠ 22 → J0 0 g = J 0 g := fun g x1 x2 x3 => by rw [← hJ0, j_up_own, if_neg x1, j_up_own, if_neg x3, j_up_own, if_neg x2]
    have g15 : J0 0 15 = nI (c + 1) := by rw [← hJ0, j_up_self]
    have g21 : J0 0 21 = 0 := by rw [← hJ0, j_up_own, if_neg (by decide), j_up_own, if_neg (by decide), j_up_self]
    have g22 : J0 0 22 = -2 := by rw [← hJ0, j_up_own, if_neg (by decide), j_up_self]
    have l0 : lgR s F I J0 := ⟨hl.1, hl.2.1, by rw [g0 17 (by decide) (by decide) (by decide)]; exact hl.2.2.1, fun i hi => by rw [f0 16 (by decide)]; exact hl.2.2.2 i hi⟩
    obtain ⟨I1, J1, b1, b2, b3, b4⟩ := add_sim (d := d + 1) (e := e + 1) (L := L) (L' := L') (pa := pa) (pb := pb) (pu := pu) (pw := pw) (k := 2) (nI (c + 1)) l0 (by decide) (by omega)
    obtain ⟨I2, J2, c1, c2, c3, c4⟩ := add_sim (d := d + 1) (e := e + 1) (L := L) (L' := L') (pa := pa) (pb := pb) (pu := pu) (pw := pw) (k := 2) (nI (chN a b 1189)) b1 (by decide) (by omega)
    have w2 := b2.trans c2
    obtain ⟨F', I3, J3, d1, d2, d3, d4, d5, d6, d7, d8, d9, d10, d11⟩ := chg_sim (d := d) (e := e) (L := L) (L' := L') (pa := pa) (pb := pb) (pu := pu) (pw := pw) (a := a) (b := b) (s := s) (c := c + 1) (rCst_eq1 hr (fun k x1 x2 => by rw [w2.2.2.1 k (by omega) x1, f0 k x1])) (fun y hy => by rw [w2.1 2 (by decide) (by decide)]; exact hI y hy) (fun y hy => by rw [w2.1 4 (by decide) (by decide)]; exact hI4 y hy) (fun y hy => by rw [w2.2.2.1 6 (by decide) (by decide), f0 6 (by decide)]; exact hJ y hy) (fun y hy => by rw [w2.2.2.1 7 (by decide) (by decide), f0 7 (by decide)]; exact hJ7 y hy) (by rw [w2.2.2.2 15 (by decide), g15]) c1 (by omega) (nI (c + 1)) (nI (chN a b 1189)) m1 m2 m3 (nI (chN a b 1189))
    obtain ⟨I4, J4, p1, p2, p3, p4⟩ := add_sim (d := d + 1) (e := e + 1) (L := L) (L' := L') (pa := pa) (pb := pb) (pu := pu) (pw := pw) (k := 1) 90 d1 (by decide) (by omega)
    refine ⟨adF F' (s + 4 + 6 * chN a b 1189) 90 1, I4, J4, nI (chN a b 1189), nI 1189, ?_, ?_, ?_, ?_, ?_, ?_, ?_, ?_, ?_, ?_, ?_, ?_, ?_, ?_, ?_⟩
    · rw [show s + 5 + 6 * chN a b 1189 = s + 4 + 6 * chN a b 1189 + 1 by omega]
      exact p1
    · intro i hi
      rw [adF_old _ _ _ (by omega), d2 i (by omega), adF_old _ _ _ (by omega), adF_old _ _ _ (by omega)]
    · rw [nm_old _ _ (by omega)]
      refine nmV_2 (by omega) (fun j hj => ?_)
      rw [d2 (s + 2 + j) (by omega)]
      exact adF_new _ _ hj
    · intro y hy hne
      have cy : chN a b y + 1 ≤ chN a b 1189 := by rw [← chN_yes hne]; exact chN_mono (by omega)
      rw [nm_old _ _ (by omega), nm_old _ _ (by omega)]
      exact d3 y hy hne
    · intro k x1 x2
      rw [p2.1 k x1 x2, d4 k x1 x2, w2.1 k x1 x2]
    · intro f x1
      rw [p2.2.1 f x1, d5 f x1, w2.2.1 f x1]
    · intro k x1 x2 x3 x4
      rw [p2.2.2.1 k x4 x1, d6 k x1 x2 x3 x4, w2.2.2.1 k x4 x1, f0 k x1]
    · intro g x1 x2 x3 x4
      rw [p2.2.2.2 g x2, d7 g x2, w2.2.2.2 g x2, g0 g x1 x3 x4]
    · rw [p2.2.2.2 15 (by decide), d7 15 (by decide), w2.2.2.2 15 (by decide), g15]
    · rw [p2.2.2.2 21 (by decide), d7 21 (by decide), w2.2.2.2 21 (by decide), g21]
    · rw [p2.2.2.2 22 (by decide), d7 22 (by decide), w2.2.2.2 22 (by decide), g22]
    · intro y hy
      rw [p2.2.2.1 6 (by decide) (by decide)]
      exact d8 y hy
    · intro r hr'
      rw [p2.2.2.1 15 (by decide) (by decide)]
      have := d9 r hr'
      rw [w2.2.2.1 15 (by decide) (by decide), f0 15 (by decide)] at this
      exact this
    · rw [show (2 : Int32) = nI 2 from rfl, jgo_some rfl b3]
      dsimp only [Option.toList_none, List.nil_append]
      rw [B39_72, show (2 : Int32) = nI 2 from rfl, jgo_some rfl c3]
      dsimp only [Option.toList_none, List.nil_append]
      rw [B39_79]
      refine (show _ = _ from d10).trans ?_
      rw [B39_82, if_neg (by decide), show (1 : Int32) = nI 1 from rfl, jgo_some rfl p3]
      dsimp only [Option.toList_none, List.nil_append]
      rw [B39_136, if_pos bl_1]
      rfl
    · rw [show (2 : Int32) = nI 2 from rfl, jgo_some rfl b4]
      dsimp only [Option.toList_none, List.nil_append]
      rw [B230_177, show (2 : Int32) = nI 2 from rfl, jgo_some rfl c4]
      dsimp only [Option.toList_none, List.nil_append]
      rw [B230_184]
      refine (show _ = _ from d11).trans ?_
      rw [B230_187, if_neg (by decide), show (1 : Int32) = nI 1 from rfl, jgo_some rfl p4]
      rfl
end LOGC
