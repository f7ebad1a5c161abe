/-! ARMS: open, put, get, leave, write, feed, cut -/
section SECG
variable {I J I2 J2 : Nat → Nat → Int32} {L L' : Nat → Nat → Int64} {S T : jS} {B : Nat}
theorem perv_1 {x : Int32} (h : ¬ perv x = 0) : x = 0 ∨ x = 1 ∨ x = 2 := by
  unfold perv at h
  by_cases h0 : x < 0
  · rw [if_pos h0] at h; exact absurd rfl h
  · by_cases h1 : x < 3
    · exact i_three h0 h1
    · rw [if_neg h0, if_neg h1] at h; exact absurd rfl h
theorem perRel.op_ne {p q b : Nat} (h : perRel q b I J) (hpq : p ≠ q) : perRel q b I (opJ p J) := by
  refine (h.end_ne hpq).eq (fun _ _ _ => rfl) ?_ ?_ (fun x _ => ?_) (fun x _ => ?_)
  · unfold opJ; rw [j_up_cell _ (by decide), j_up_nq _ (by omega)]
  · unfold opJ; rw [j_up_nq _ (by omega), j_up_cell _ (by decide)]
  · unfold opJ; rw [j_up_cell _ (by decide), j_up_cell _ (by decide), j_up_cell _ (by decide), j_up_cell _ (by decide)]; exact ⟨rfl, rfl⟩
  · unfold opJ; rw [j_up_cell _ (by decide), j_up_cell _ (by decide), j_up_cell _ (by decide), j_up_cell _ (by decide)]; exact ⟨rfl, rfl⟩
theorem perRel.se_ne {p q b r : Nat} (h : perRel q b I J) (hpq : p ≠ q) (hr : r < 148) : perRel q b I (seJ p r J) := by
  refine h.eq (fun _ _ _ => rfl) ?_ ?_ (fun x _ => ?_) (fun x hx => ?_)
  · unfold seJ; rw [j_up_cell _ (by decide)]
  · unfold seJ; rw [j_up_cell _ (by decide)]
  · unfold seJ; rw [j_up_cell _ (by decide), j_up_cell _ (by decide)]; exact ⟨rfl, rfl⟩
  · unfold seJ; rw [j_up_nq _ (by rcases Nat.lt_or_gt_of_ne hpq with z | z <;> omega), j_up_cell _ (by decide)]; exact ⟨rfl, rfl⟩
theorem setJ_o (p q r : Nat) (v : Int32) {c : Nat} (h1 : c < 11 ∨ 14 < c) : setJ p q r v J c = J c := by
  unfold setJ
  rw [j_up_cell _ (by omega), j_up_cell _ (by omega), j_up_cell _ (by omega), j_up_cell _ (by omega)]
theorem perRel.st_ne {p q b x r : Nat} {v : Int32} (h : perRel q b I J) (hpq : p ≠ q) (hx : x < 1189) (hr : r < 148) : perRel q b I (setJ p x r v J) := by
  refine h.eq (fun _ _ _ => rfl) (by rw [setJ_o _ _ _ _ (by decide)]) (by rw [setJ_o _ _ _ _ (by decide)]) (fun y hy => ?_) (fun y hy => ?_)
  · unfold setJ
    rw [j_up_cell _ (by decide), j_up_cell _ (by decide), j_up_cell _ (by decide), j_up_nq _ (by rcases Nat.lt_or_gt_of_ne hpq with z | z <;> omega), j_up_cell _ (by decide), j_up_cell _ (by decide), j_up_nq _ (by rcases Nat.lt_or_gt_of_ne hpq with z | z <;> omega), j_up_cell _ (by decide)]
    exact ⟨rfl, rfl⟩
  · unfold setJ
    rw [j_up_cell _ (by decide), j_up_nq _ (by rcases Nat.lt_or_gt_of_ne hpq with z | z <;> omega), j_up_cell _ (by decide), j_up_cell _ (by decide), j_up_nq _ (by rcases Nat.lt_or_gt_of_ne hpq with z | z <;> omega), j_up_cell _ (by decide), j_up_cell _ (by decide), j_up_cell _ (by decide)]
    exact ⟨rfl, rfl⟩
theorem j_up_own2 (f : Nat → Nat → Int32) {a k : Nat} (v : Int32) (q : Nat) (h : q ≠ k) : j_up f a k v a q = f a q := j_up_nq _ (Or.inr h) v
theorem perRel.toI {p b : Nat} (h : perRel p b I J) (e1 : ∀ c, b ≤ c → c < b + 5 → I2 c = I c) : perRel p b I2 J := h.eq e1 rfl rfl (fun _ _ => ⟨rfl, rfl⟩) (fun _ _ => ⟨rfl, rfl⟩)
theorem stI8_o (q r : Nat) (v : Int32) {c : Nat} (h1 : c ≠ 9) (h2 : c ≠ 10) (h4 : c ≠ 12) : stI8 I q r v c = I c := by
  unfold stI8
  rw [j_up_cell _ h4, j_up_cell _ h2, j_up_cell _ h1]
theorem stI13_o (q r : Nat) (v : Int32) {c : Nat} (h1 : c ≠ 14) (h2 : c ≠ 15) (h4 : c ≠ 17) : stI13 I q r v c = I c := by
  unfold stI13
  rw [j_up_cell _ h4, j_up_cell _ h2, j_up_cell _ h1]
theorem stI18_o (q r : Nat) (v : Int32) {c : Nat} (h1 : c ≠ 19) (h2 : c ≠ 20) (h4 : c ≠ 22) : stI18 I q r v c = I c := by
  unfold stI18
  rw [j_up_cell _ h4, j_up_cell _ h2, j_up_cell _ h1]
theorem a_open (h : RelS B S T) (x : Int32) : alk B (jv 1900 168 0 [some (.ref 0), some (.int x)] [] S) (jv 1900 220 0 [some (.ref 0), some (.int x)] [] T) := by
  obtain ⟨g, g', N, I, J, L, L', pu, pw, hg, hN, rfl, rfl, hR⟩ := h
  have hS : RelS B (shC, I, L, pX (some g) (some g') pu pw) (shR, J, L', pR) := RelS.mk hg hN hR
  obtain ⟨F, cms, M, s, z, ⟨hp, ht, hta, hd⟩, hl, hk, hr⟩ := id hR
  by_cases p : perv x = 0
  · exact alk.ask hS ⟨.int (-1), by rw [B168_0_u, g_per_c (d := 1899), p]; exact B168_4_u _ _ _ _ _ _ _ _ _, by rw [B220_0, g_per_r (d := 1899), p]; exact B220_4 _ _ _ _ _⟩
  rcases perv_1 p with rfl | rfl | rfl
  · rcases open_0 (d := 1897) (e := 1899) (L := L) (L' := L') (pa := some g) (pb := some g') (pu := pu) (pw := pw) hp.1 hd (hl.2.2.2.2.2.1.trans hl.2.2.2.2.2.2.1.symm) with q | ⟨v, q1, q2⟩
    · exact alk.ask hS q
    · refine ⟨v, _, _, q1, q2, RelS.mk hg hN (hR.bk hg ⟨⟨beg_0 _ (hl.2.2.2.2.2.1.trans hl.2.2.2.2.2.2.1.symm), (hp.2.1.op_ne (by decide)).toI (fun c c1 c2 => bgI8_o _ (by omega) (by omega) (by omega) (by omega)), (hp.2.2.op_ne (by decide)).toI (fun c c1 c2 => bgI8_o _ (by omega) (by omega) (by omega) (by omega))⟩, ?_, ?_, ?_⟩ (fun c c0 c1 c2 => bgI8_o _ (by omega) (by omega) (by omega) (by omega)) (by rw [bgI8_o _ (by decide) (by decide) (by decide) (by decide)]) (by rw [bgI8_o _ (by decide) (by decide) (by decide) (by decide)]) (fun c c0 c1 _ => opJ_o _ _ (by omega) (by omega) (by omega) (by omega) (by omega)) (fun q _ _ _ => by rw [opJ_o _ _ (by decide) (by decide) (by decide) (by decide) (by decide)]))⟩
      · exact ht.cg (by rw [bgI8_o _ (by decide) (by decide) (by decide) (by decide)]) (by rw [bgI8_o _ (by decide) (by decide) (by decide) (by decide)]) (by rw [opJ_o _ _ (by decide) (by decide) (by decide) (by decide) (by decide)]) (by rw [opJ_o _ _ (by decide) (by decide) (by decide) (by decide) (by decide)])
      · exact hta.cg (by rw [bgI8_o _ (by decide) (by decide) (by decide) (by decide)]) (by rw [opJ_o _ _ (by decide) (by decide) (by decide) (by decide) (by decide)]) (bgI8_o _ (by decide) (by decide) (by decide) (by decide)) (opJ_o _ _ (by decide) (by decide) (by decide) (by decide) (by decide))
      · rw [bgI8_o _ (by decide) (by decide) (by decide) (by decide), opJ_o _ _ (by decide) (by decide) (by decide) (by decide) (by decide)]; exact hd
  · rcases open_1 (d := 1897) (e := 1899) (L := L) (L' := L') (pa := some g) (pb := some g') (pu := pu) (pw := pw) hp.2.1 hd (hl.2.2.2.2.2.1.trans hl.2.2.2.2.2.2.1.symm) with q | ⟨v, q1, q2⟩
    · exact alk.ask hS q
    · refine ⟨v, _, _, q1, q2, RelS.mk hg hN (hR.bk hg ⟨⟨(hp.1.op_ne (by decide)).toI (fun c c1 c2 => bgI13_o _ (by omega) (by omega) (by omega) (by omega)), beg_1 _ (hl.2.2.2.2.2.1.trans hl.2.2.2.2.2.2.1.symm), (hp.2.2.op_ne (by decide)).toI (fun c c1 c2 => bgI13_o _ (by omega) (by omega) (by omega) (by omega))⟩, ?_, ?_, ?_⟩ (fun c c0 c1 c2 => bgI13_o _ (by omega) (by omega) (by omega) (by omega)) (by rw [bgI13_o _ (by decide) (by decide) (by decide) (by decide)]) (by rw [bgI13_o _ (by decide) (by decide) (by decide) (by decide)]) (fun c c0 c1 _ => opJ_o _ _ (by omega) (by omega) (by omega) (by omega) (by omega)) (fun q _ _ _ => by rw [opJ_o _ _ (by decide) (by decide) (by decide) (by decide) (by decide)]))⟩
      · exact ht.cg (by rw [bgI13_o _ (by decide) (by decide) (by decide) (by decide)]) (by rw [bgI13_o _ (by decide) (by decide) (by decide) (by decide)]) (by rw [opJ_o _ _ (by decide) (by decide) (by decide) (by decide) (by decide)]) (by rw [opJ_o _ _ (by decide) (by decide) (by decide) (by decide) (by decide)])
      · exact hta.cg (by rw [bgI13_o _ (by decide) (by decide) (by decide) (by decide)]) (by rw [opJ_o _ _ (by decide) (by decide) (by decide) (by decide) (by decide)]) (bgI13_o _ (by decide) (by decide) (by decide) (by decide)) (opJ_o _ _ (by decide) (by decide) (by decide) (by decide) (by decide))
      · rw [bgI13_o _ (by decide) (by decide) (by decide) (by decide), opJ_o _ _ (by decide) (by decide) (by decide) (by decide) (by decide)]; exact hd
  · rcases open_2 (d := 1897) (e := 1899) (L := L) (L' := L') (pa := some g) (pb := some g') (pu := pu) (pw := pw) hp.2.2 hd (hl.2.2.2.2.2.1.trans hl.2.2.2.2.2.2.1.symm) with q | ⟨v, q1, q2⟩
    · exact alk.ask hS q
    · refine ⟨v, _, _, q1, q2, RelS.mk hg hN (hR.bk hg ⟨⟨(hp.1.op_ne (by decide)).toI (fun c c1 c2 => bgI18_o _ (by omega) (by omega) (by omega) (by omega)), (hp.2.1.op_ne (by decide)).toI (fun c c1 c2 => bgI18_o _ (by omega) (by omega) (by omega) (by omega)), beg_2 _ (hl.2.2.2.2.2.1.trans hl.2.2.2.2.2.2.1.symm)⟩, ?_, ?_, ?_⟩ (fun c c0 c1 c2 => bgI18_o _ (by omega) (by omega) (by omega) (by omega)) (by rw [bgI18_o _ (by decide) (by decide) (by decide) (by decide)]) (by rw [bgI18_o _ (by decide) (by decide) (by decide) (by decide)]) (fun c c0 c1 _ => opJ_o _ _ (by omega) (by omega) (by omega) (by omega) (by omega)) (fun q _ _ _ => by rw [opJ_o _ _ (by decide) (by decide) (by decide) (by decide) (by decide)]))⟩
      · exact ht.cg (by rw [bgI18_o _ (by decide) (by decide) (by decide) (by decide)]) (by rw [bgI18_o _ (by decide) (by decide) (by decide) (by decide)]) (by rw [opJ_o _ _ (by decide) (by decide) (by decide) (by decide) (by decide)]) (by rw [opJ_o _ _ (by decide) (by decide) (by decide) (by decide) (by decide)])
      · exact hta.cg (by rw [bgI18_o _ (by decide) (by decide) (by decide) (by decide)]) (by rw [opJ_o _ _ (by decide) (by decide) (by decide) (by decide) (by decide)]) (bgI18_o _ (by decide) (by decide) (by decide) (by decide)) (opJ_o _ _ (by decide) (by decide) (by decide) (by decide) (by decide))
      · rw [bgI18_o _ (by decide) (by decide) (by decide) (by decide), opJ_o _ _ (by decide) (by decide) (by decide) (by decide) (by decide)]; exact hd
theorem a_put (h : RelS B S T) (x t r f y : Int32) : alk B (jv 1900 169 0 [some (.ref 0), some (.int x), some (.int t), some (.int r), some (.int f), some (.int y)] [] S) (jv 1900 223 0 [some (.ref 0), some (.int x), some (.int t), some (.int r), some (.int f), some (.int y)] [] T) := by
  obtain ⟨g, g', N, I, J, L, L', pu, pw, hg, hN, rfl, rfl, hR⟩ := h
  have hS : RelS B (shC, I, L, pX (some g) (some g') pu pw) (shR, J, L', pR) := RelS.mk hg hN hR
  obtain ⟨F, cms, M, s, z, ⟨hp, ht, hta, hd⟩, hl, hk, hr⟩ := id hR
  by_cases p : perv x = 0
  · exact alk.ask hS ⟨.int (-1), by rw [B169_0_u, g_per_c (d := 1899), p]; show jv 1900 169 4 _ [.int 0] _ = _; rw [B169_4_u, if_pos rfl, B169_34_u], by rw [B223_0, g_per_r (d := 1899), p]; show jv 1900 223 4 _ [.int 0] _ = _; rw [B223_4, if_pos rfl, B223_46]⟩
  rcases perv_1 p with rfl | rfl | rfl
  · rcases put_0 (d := 1899) (e := 1899) (L := L) (L' := L') (pa := some g) (pb := some g') (pu := pu) (pw := pw) hp.1 hd hk.1.2.2.2.1 t r f y with q | ⟨q0, x0, q1, q2, qv, q3, v, q4, q5⟩
    · exact alk.ask hS q
    · refine ⟨v, _, _, q4, q5, RelS.mk hg hN (hR.bk hg ⟨⟨wri_0 hp.1 q3 q1 q2 qv, (hp.2.1.st_ne (by decide) q1 q2).toI (fun c c1 c2 => stI8_o _ _ _ (by omega) (by omega) (by omega)), (hp.2.2.st_ne (by decide) q1 q2).toI (fun c c1 c2 => stI8_o _ _ _ (by omega) (by omega) (by omega))⟩, ?_, ?_, ?_⟩ (fun c c0 c1 c2 => stI8_o _ _ _ (by omega) (by omega) (by omega)) (by rw [stI8_o _ _ _ (by decide) (by decide) (by decide)]) (by rw [stI8_o _ _ _ (by decide) (by decide) (by decide)]) (fun c c0 c1 _ => setJ_o _ _ _ _ (by omega)) (fun q _ _ _ => by rw [setJ_o _ _ _ _ (by decide)]))⟩
      · exact ht.cg (by rw [stI8_o _ _ _ (by decide) (by decide) (by decide)]) (by rw [stI8_o _ _ _ (by decide) (by decide) (by decide)]) (by rw [setJ_o _ _ _ _ (by decide)]) (by rw [setJ_o _ _ _ _ (by decide)])
      · exact hta.cg (by rw [stI8_o _ _ _ (by decide) (by decide) (by decide)]) (by rw [setJ_o _ _ _ _ (by decide)]) (stI8_o _ _ _ (by decide) (by decide) (by decide)) (setJ_o _ _ _ _ (by decide))
      · rw [stI8_o _ _ _ (by decide) (by decide) (by decide), setJ_o _ _ _ _ (by decide)]; exact hd
  · rcases put_1 (d := 1899) (e := 1899) (L := L) (L' := L') (pa := some g) (pb := some g') (pu := pu) (pw := pw) hp.2.1 hd hk.1.2.2.2.1 t r f y with q | ⟨q0, x0, q1, q2, qv, q3, v, q4, q5⟩
    · exact alk.ask hS q
    · refine ⟨v, _, _, q4, q5, RelS.mk hg hN (hR.bk hg ⟨⟨(hp.1.st_ne (by decide) q1 q2).toI (fun c c1 c2 => stI13_o _ _ _ (by omega) (by omega) (by omega)), wri_1 hp.2.1 q3 q1 q2 qv, (hp.2.2.st_ne (by decide) q1 q2).toI (fun c c1 c2 => stI13_o _ _ _ (by omega) (by omega) (by omega))⟩, ?_, ?_, ?_⟩ (fun c c0 c1 c2 => stI13_o _ _ _ (by omega) (by omega) (by omega)) (by rw [stI13_o _ _ _ (by decide) (by decide) (by decide)]) (by rw [stI13_o _ _ _ (by decide) (by decide) (by decide)]) (fun c c0 c1 _ => setJ_o _ _ _ _ (by omega)) (fun q _ _ _ => by rw [setJ_o _ _ _ _ (by decide)]))⟩
      · exact ht.cg (by rw [stI13_o _ _ _ (by decide) (by decide) (by decide)]) (by rw [stI13_o _ _ _ (by decide) (by decide) (by decide)]) (by rw [setJ_o _ _ _ _ (by decide)]) (by rw [setJ_o _ _ _ _ (by decide)])
      · exact hta.cg (by rw [stI13_o _ _ _ (by decide) (by decide) (by decide)]) (by rw [setJ_o _ _ _ _ (by decide)]) (stI13_o _ _ _ (by decide) (by decide) (by decide)) (setJ_o _ _ _ _ (by decide))
      · rw [stI13_o _ _ _ (by decide) (by decide) (by decide), setJ_o _ _ _ _ (by decide)]; exact hd
  · rcases put_2 (d := 1899) (e := 1899) (L := L) (L' := L') (pa := some g) (pb := some g') (pu := pu) (pw := pw) hp.2.2 hd hk.1.2.2.2.1 t r f y with q | ⟨q0, x0, q1, q2, qv, q3, v, q4, q5⟩
    · exact alk.ask hS q
    · refine ⟨v, _, _, q4, q5, RelS.mk hg hN (hR.bk hg ⟨⟨(hp.1.st_ne (by decide) q1 q2).toI (fun c c1 c2 => stI18_o _ _ _ (by omega) (by omega) (by omega)), (hp.2.1.st_ne (by decide) q1 q2).toI (fun c c1 c2 => stI18_o _ _ _ (by omega) (by omega) (by omega)), wri_2 hp.2.2 q3 q1 q2 qv⟩, ?_, ?_, ?_⟩ (fun c c0 c1 c2 => stI18_o _ _ _ (by omega) (by omega) (by omega)) (by rw [stI18_o _ _ _ (by decide) (by decide) (by decide)]) (by rw [stI18_o _ _ _ (by decide) (by decide) (by decide)]) (fun c c0 c1 _ => setJ_o _ _ _ _ (by omega)) (fun q _ _ _ => by rw [setJ_o _ _ _ _ (by decide)]))⟩
      · exact ht.cg (by rw [stI18_o _ _ _ (by decide) (by decide) (by decide)]) (by rw [stI18_o _ _ _ (by decide) (by decide) (by decide)]) (by rw [setJ_o _ _ _ _ (by decide)]) (by rw [setJ_o _ _ _ _ (by decide)])
      · exact hta.cg (by rw [stI18_o _ _ _ (by decide) (by decide) (by decide)]) (by rw [setJ_o _ _ _ _ (by decide)]) (stI18_o _ _ _ (by decide) (by decide) (by decide)) (setJ_o _ _ _ _ (by decide))
      · rw [stI18_o _ _ _ (by decide) (by decide) (by decide), setJ_o _ _ _ _ (by decide)]; exact hd
theorem a_get (h : RelS B S T) (x t r f : Int32) : alk B (jv 1900 170 0 [some (.ref 0), some (.int x), some (.int t), some (.int r), some (.int f)] [] S) (jv 1900 224 0 [some (.ref 0), some (.int x), some (.int t), some (.int r), some (.int f), none] [] T) := by
  obtain ⟨g, g', N, I, J, L, L', pu, pw, hg, hN, rfl, rfl, hR⟩ := h
  have hS : RelS B (shC, I, L, pX (some g) (some g') pu pw) (shR, J, L', pR) := RelS.mk hg hN hR
  obtain ⟨F, cms, M, s, z, ⟨hp, ht, hta, hd⟩, hl, hk, hr⟩ := id hR
  by_cases p : perv x = 0
  · exact alk.ask hS ⟨.int (-1), by rw [B170_0_u, g_per_c (d := 1899), p]; show jv 1900 170 4 _ [.int 0] _ = _; rw [B170_4_u, if_pos rfl, B170_17_u], by rw [B224_0, g_per_r (d := 1899), p]; show jv 1900 224 4 _ [.int 0] _ = _; rw [B224_4, if_pos rfl, B224_18]⟩
  rcases perv_1 p with rfl | rfl | rfl
  · rcases get_0 (d := 1897) (e := 1899) (L := L) (L' := L') (pa := some g) (pb := some g') (pu := pu) (pw := pw) hp.1 hd (fun q hq => (hk.1.1 q hq).trans (hk.1.2.1 q hq).symm) hk.1.2.2.2.1 t r f with q | ⟨x0, q2, q3, v, q4, q5⟩
    · exact alk.ask hS q
    · refine ⟨v, _, _, q4, q5, RelS.mk hg hN (hR.bk hg ⟨⟨rea_0 hp.1 q3 q2, (hp.2.1.se_ne (by decide) q2).toI (fun c c1 c2 => j_up_cell _ (by omega) _ _), (hp.2.2.se_ne (by decide) q2).toI (fun c c1 c2 => j_up_cell _ (by omega) _ _)⟩, ?_, ?_, ?_⟩ (fun c c0 c1 c2 => j_up_cell _ (by omega) _ _) (by rw [j_up_cell _ (by decide)]) (by rw [j_up_cell _ (by decide)]) (fun c c0 c1 _ => j_up_cell _ (by omega) _ _) (fun q _ _ _ => by unfold seJ; rw [j_up_cell _ (by decide)]))⟩
      · exact ht.cg (by rw [j_up_cell _ (by decide)]) (by rw [j_up_cell _ (by decide)]) (by unfold seJ; rw [j_up_cell _ (by decide)]) (by unfold seJ; rw [j_up_cell _ (by decide)])
      · exact hta.cg (by rw [j_up_cell _ (by decide)]) (by unfold seJ; rw [j_up_cell _ (by decide)]) (j_up_cell _ (by decide) _ _) (j_up_cell _ (by decide) _ _)
      · unfold seJ; rw [j_up_cell _ (by decide), j_up_cell _ (by decide)]; exact hd
  · rcases get_1 (d := 1897) (e := 1899) (L := L) (L' := L') (pa := some g) (pb := some g') (pu := pu) (pw := pw) hp.2.1 hd (fun q hq => (hk.1.1 q hq).trans (hk.1.2.1 q hq).symm) hk.1.2.2.2.1 t r f with q | ⟨x0, q2, q3, v, q4, q5⟩
    · exact alk.ask hS q
    · refine ⟨v, _, _, q4, q5, RelS.mk hg hN (hR.bk hg ⟨⟨(hp.1.se_ne (by decide) q2).toI (fun c c1 c2 => j_up_cell _ (by omega) _ _), rea_1 hp.2.1 q3 q2, (hp.2.2.se_ne (by decide) q2).toI (fun c c1 c2 => j_up_cell _ (by omega) _ _)⟩, ?_, ?_, ?_⟩ (fun c c0 c1 c2 => j_up_cell _ (by omega) _ _) (by rw [j_up_cell _ (by decide)]) (by rw [j_up_cell _ (by decide)]) (fun c c0 c1 _ => j_up_cell _ (by omega) _ _) (fun q _ _ _ => by unfold seJ; rw [j_up_cell _ (by decide)]))⟩
      · exact ht.cg (by rw [j_up_cell _ (by decide)]) (by rw [j_up_cell _ (by decide)]) (by unfold seJ; rw [j_up_cell _ (by decide)]) (by unfold seJ; rw [j_up_cell _ (by decide)])
      · exact hta.cg (by rw [j_up_cell _ (by decide)]) (by unfold seJ; rw [j_up_cell _ (by decide)]) (j_up_cell _ (by decide) _ _) (j_up_cell _ (by decide) _ _)
      · unfold seJ; rw [j_up_cell _ (by decide), j_up_cell _ (by decide)]; exact hd
  · rcases get_2 (d := 1897) (e := 1899) (L := L) (L' := L') (pa := some g) (pb := some g') (pu := pu) (pw := pw) hp.2.2 hd (fun q hq => (hk.1.1 q hq).trans (hk.1.2.1 q hq).symm) hk.1.2.2.2.1 t r f with q | ⟨x0, q2, q3, v, q4, q5⟩
    · exact alk.ask hS q
    · refine ⟨v, _, _, q4, q5, RelS.mk hg hN (hR.bk hg ⟨⟨(hp.1.se_ne (by decide) q2).toI (fun c c1 c2 => j_up_cell _ (by omega) _ _), (hp.2.1.se_ne (by decide) q2).toI (fun c c1 c2 => j_up_cell _ (by omega) _ _), rea_2 hp.2.2 q3 q2⟩, ?_, ?_, ?_⟩ (fun c c0 c1 c2 => j_up_cell _ (by omega) _ _) (by rw [j_up_cell _ (by decide)]) (by rw [j_up_cell _ (by decide)]) (fun c c0 c1 _ => j_up_cell _ (by omega) _ _) (fun q _ _ _ => by unfold seJ; rw [j_up_cell _ (by decide)]))⟩
      · exact ht.cg (by rw [j_up_cell _ (by decide)]) (by rw [j_up_cell _ (by decide)]) (by unfold seJ; rw [j_up_cell _ (by decide)]) (by unfold seJ; rw [j_up_cell _ (by decide)])
      · exact hta.cg (by rw [j_up_cell _ (by decide)]) (by unfold seJ; rw [j_up_cell _ (by decide)]) (j_up_cell _ (by decide) _ _) (j_up_cell _ (by decide) _ _)
      · unfold seJ; rw [j_up_cell _ (by decide), j_up_cell _ (by decide)]; exact hd
theorem a_leave (h : RelS B S T) (x : Int32) : alk B (jv 1900 177 0 [some (.ref 0), some (.int x)] [] S) (jv 1900 233 0 [some (.ref 0), some (.int x), none, none] [] T) := by
  obtain ⟨g, g', N, I, J, L, L', pu, pw, hg, hN, rfl, rfl, hR⟩ := h
  have hS : RelS B (shC, I, L, pX (some g) (some g') pu pw) (shR, J, L', pR) := RelS.mk hg hN hR
  obtain ⟨F, cms, M, s, z, ⟨hp, ht, hta, hd⟩, hl, hk, hr⟩ := id hR
  by_cases p : perv x = 0
  · exact alk.ask hS ⟨.int (-1), by rw [B177_0_u, g_per_c (d := 1899), p]; show jv 1900 177 4 _ [.int 0] _ = _; rw [B177_4_u, if_pos rfl], by rw [B233_0, g_per_r (d := 1899), p]; show jv 1900 233 4 _ [.int 0] _ = _; rw [B233_4, if_pos rfl]⟩
  rcases perv_1 p with rfl | rfl | rfl
  · rcases leave_0 (d := 1899) (e := 1899) (L := L) (L' := L') (pa := some g) (pb := some g') (pu := pu) (pw := pw) hp.1 hd with q | ⟨v, q1, q2⟩
    · exact alk.ask hS q
    · refine ⟨v, _, _, q1, q2, RelS.mk hg hN (hR.bk hg ⟨⟨perRel.none (by rw [j_up_eq]) (by rw [endJ_9, if_pos rfl]), (hp.2.1.end_ne (by decide)).toI (fun c c1 c2 => j_up_cell _ (by omega) _ _), (hp.2.2.end_ne (by decide)).toI (fun c c1 c2 => j_up_cell _ (by omega) _ _)⟩, ?_, ?_, ?_⟩ (fun c c0 c1 c2 => j_up_cell _ (by omega) _ _) (by rw [j_up_cell _ (by decide)]) (by rw [j_up_cell _ (by decide)]) (fun c c0 c1 _ => endJ_o _ _ (by omega) (by omega) (by omega) (by omega)) (fun q _ _ _ => by rw [endJ_o _ _ (by decide) (by decide) (by decide) (by decide)]))⟩
      · exact ht.cg (by rw [j_up_cell _ (by decide)]) (by rw [j_up_cell _ (by decide)]) (by rw [endJ_o _ _ (by decide) (by decide) (by decide) (by decide)]) (by rw [endJ_o _ _ (by decide) (by decide) (by decide) (by decide)])
      · exact hta.cg (by rw [j_up_cell _ (by decide)]) (by rw [endJ_o _ _ (by decide) (by decide) (by decide) (by decide)]) (j_up_cell _ (by decide) _ _) (endJ_o _ _ (by decide) (by decide) (by decide) (by decide))
      · rw [j_up_cell _ (by decide), endJ_o _ _ (by decide) (by decide) (by decide) (by decide)]; exact hd
  · rcases leave_1 (d := 1899) (e := 1899) (L := L) (L' := L') (pa := some g) (pb := some g') (pu := pu) (pw := pw) hp.2.1 hd with q | ⟨v, q1, q2⟩
    · exact alk.ask hS q
    · refine ⟨v, _, _, q1, q2, RelS.mk hg hN (hR.bk hg ⟨⟨(hp.1.end_ne (by decide)).toI (fun c c1 c2 => j_up_cell _ (by omega) _ _), perRel.none (by rw [j_up_eq]) (by rw [endJ_9, if_pos rfl]), (hp.2.2.end_ne (by decide)).toI (fun c c1 c2 => j_up_cell _ (by omega) _ _)⟩, ?_, ?_, ?_⟩ (fun c c0 c1 c2 => j_up_cell _ (by omega) _ _) (by rw [j_up_cell _ (by decide)]) (by rw [j_up_cell _ (by decide)]) (fun c c0 c1 _ => endJ_o _ _ (by omega) (by omega) (by omega) (by omega)) (fun q _ _ _ => by rw [endJ_o _ _ (by decide) (by decide) (by decide) (by decide)]))⟩
      · exact ht.cg (by rw [j_up_cell _ (by decide)]) (by rw [j_up_cell _ (by decide)]) (by rw [endJ_o _ _ (by decide) (by decide) (by decide) (by decide)]) (by rw [endJ_o _ _ (by decide) (by decide) (by decide) (by decide)])
      · exact hta.cg (by rw [j_up_cell _ (by decide)]) (by rw [endJ_o _ _ (by decide) (by decide) (by decide) (by decide)]) (j_up_cell _ (by decide) _ _) (endJ_o _ _ (by decide) (by decide) (by decide) (by decide))
      · rw [j_up_cell _ (by decide), endJ_o _ _ (by decide) (by decide) (by decide) (by decide)]; exact hd
  · rcases leave_2 (d := 1899) (e := 1899) (L := L) (L' := L') (pa := some g) (pb := some g') (pu := pu) (pw := pw) hp.2.2 hd with q | ⟨v, q1, q2⟩
    · exact alk.ask hS q
    · refine ⟨v, _, _, q1, q2, RelS.mk hg hN (hR.bk hg ⟨⟨(hp.1.end_ne (by decide)).toI (fun c c1 c2 => j_up_cell _ (by omega) _ _), (hp.2.1.end_ne (by decide)).toI (fun c c1 c2 => j_up_cell _ (by omega) _ _), perRel.none (by rw [j_up_eq]) (by rw [endJ_9, if_pos rfl])⟩, ?_, ?_, ?_⟩ (fun c c0 c1 c2 => j_up_cell _ (by omega) _ _) (by rw [j_up_cell _ (by decide)]) (by rw [j_up_cell _ (by decide)]) (fun c c0 c1 _ => endJ_o _ _ (by omega) (by omega) (by omega) (by omega)) (fun q _ _ _ => by rw [endJ_o _ _ (by decide) (by decide) (by decide) (by decide)]))⟩
      · exact ht.cg (by rw [j_up_cell _ (by decide)]) (by rw [j_up_cell _ (by decide)]) (by rw [endJ_o _ _ (by decide) (by decide) (by decide) (by decide)]) (by rw [endJ_o _ _ (by decide) (by decide) (by decide) (by decide)])
      · exact hta.cg (by rw [j_up_cell _ (by decide)]) (by rw [endJ_o _ _ (by decide) (by decide) (by decide) (by decide)]) (j_up_cell _ (by decide) _ _) (endJ_o _ _ (by decide) (by decide) (by decide) (by decide))
      · rw [j_up_cell _ (by decide), endJ_o _ _ (by decide) (by decide) (by decide) (by decide)]; exact hd
theorem a_write (h : RelS B S T) (x : Int32) : alk B (jv 1900 174 0 [some (.ref 0), some (.int x), none, none, none, none] [] S) (jv 1900 228 0 [some (.ref 0), some (.int x), none, none, none, none] [] T) := by
  obtain ⟨g, g', N, I, J, L, L', pu, pw, hg, hN, rfl, rfl, hR⟩ := h
  have hS : RelS B (shC, I, L, pX (some g) (some g') pu pw) (shR, J, L', pR) := RelS.mk hg hN hR
  obtain ⟨F, cms, M, s, z, ⟨hp, ht, hta, hd⟩, hl, hk, hr⟩ := id hR
  obtain ⟨n, n1, n2, n3, n4⟩ := id hta
  by_cases p : perv x = 0
  · exact alk.ask hS ⟨.int (-1), by rw [B174_0_u, g_per_c (d := 1899), p]; show jv 1900 174 4 _ [.int 0] _ = _; rw [B174_4_u, if_pos rfl], by rw [B228_0, g_per_r (d := 1899), p]; show jv 1900 228 4 _ [.int 0] _ = _; rw [B228_4, if_pos rfl]⟩
  rcases perv_1 p with rfl | rfl | rfl
  · rcases write_0 (d := 1899) (e := 1899) (L := L) (L' := L') (pa := some g) (pb := some g') (pu := pu) (pw := pw) hp.1 hd hk.1.2.2.2.1 n1 n2 n3 n4 with q | ⟨v, S1, w, T1, q1, q2, I2, J2, rfl, rfl, rfl, rfl, w1, w2, w3, w4, w5, w6, w7⟩
    · exact alk.ask hS q
    · refine ⟨_, _, _, q1, q2, RelS.mk hg hN (hR.bk hg ⟨⟨w1, w7 1 13 (by decide) (by decide) hp.2.1 (by decide) (by decide), w7 2 18 (by decide) (by decide) hp.2.2 (by decide) (by decide)⟩, ?_, ?_, ?_⟩ (fun c c0 c1 c2 => w5 c c0 (by omega) (by omega) (by omega)) (by rw [w3 8]; rfl) (by rw [w3 11]; rfl) (fun c c0 c1 _ => w6 c c0 (by omega)) (fun q q1 _ _ => by rw [w4 q, if_neg q1]))⟩
      · exact ht.cg (by rw [w3 9]; rfl) (by rw [w3 10]; rfl) (by rw [w4 21]; rfl) (by rw [w4 22]; rfl)
      · exact ⟨0, by decide, by rw [w3 7]; rfl, by rw [w4 20]; rfl, fun i hi => absurd hi (Nat.not_lt_zero i)⟩
      · rw [w3 11, w4 18]; exact hd
  · rcases write_1 (d := 1899) (e := 1899) (L := L) (L' := L') (pa := some g) (pb := some g') (pu := pu) (pw := pw) hp.2.1 hd hk.1.2.2.2.1 n1 n2 n3 n4 with q | ⟨v, S1, w, T1, q1, q2, I2, J2, rfl, rfl, rfl, rfl, w1, w2, w3, w4, w5, w6, w7⟩
    · exact alk.ask hS q
    · refine ⟨_, _, _, q1, q2, RelS.mk hg hN (hR.bk hg ⟨⟨w7 0 8 (by decide) (by decide) hp.1 (by decide) (by decide), w1, w7 2 18 (by decide) (by decide) hp.2.2 (by decide) (by decide)⟩, ?_, ?_, ?_⟩ (fun c c0 c1 c2 => w5 c c0 (by omega) (by omega) (by omega)) (by rw [w3 8]; rfl) (by rw [w3 11]; rfl) (fun c c0 c1 _ => w6 c c0 (by omega)) (fun q q1 _ _ => by rw [w4 q, if_neg q1]))⟩
      · exact ht.cg (by rw [w3 9]; rfl) (by rw [w3 10]; rfl) (by rw [w4 21]; rfl) (by rw [w4 22]; rfl)
      · exact ⟨0, by decide, by rw [w3 7]; rfl, by rw [w4 20]; rfl, fun i hi => absurd hi (Nat.not_lt_zero i)⟩
      · rw [w3 11, w4 18]; exact hd
  · rcases write_2 (d := 1899) (e := 1899) (L := L) (L' := L') (pa := some g) (pb := some g') (pu := pu) (pw := pw) hp.2.2 hd hk.1.2.2.2.1 n1 n2 n3 n4 with q | ⟨v, S1, w, T1, q1, q2, I2, J2, rfl, rfl, rfl, rfl, w1, w2, w3, w4, w5, w6, w7⟩
    · exact alk.ask hS q
    · refine ⟨_, _, _, q1, q2, RelS.mk hg hN (hR.bk hg ⟨⟨w7 0 8 (by decide) (by decide) hp.1 (by decide) (by decide), w7 1 13 (by decide) (by decide) hp.2.1 (by decide) (by decide), w1⟩, ?_, ?_, ?_⟩ (fun c c0 c1 c2 => w5 c c0 (by omega) (by omega) (by omega)) (by rw [w3 8]; rfl) (by rw [w3 11]; rfl) (fun c c0 c1 _ => w6 c c0 (by omega)) (fun q q1 _ _ => by rw [w4 q, if_neg q1]))⟩
      · exact ht.cg (by rw [w3 9]; rfl) (by rw [w3 10]; rfl) (by rw [w4 21]; rfl) (by rw [w4 22]; rfl)
      · exact ⟨0, by decide, by rw [w3 7]; rfl, by rw [w4 20]; rfl, fun i hi => absurd hi (Nat.not_lt_zero i)⟩
      · rw [w3 11, w4 18]; exact hd
theorem a_feed (h : RelS B S T) (a1 a2 a3 a4 a5 : Int32) : alk B (jv 1900 171 0 [some (.ref 0), some (.int a1), some (.int a2), some (.int a3), some (.int a4), some (.int a5)] [] S) (jv 1900 225 0 [some (.ref 0), some (.int a1), some (.int a2), some (.int a3), some (.int a4), some (.int a5)] [] T) := by
  obtain ⟨g, g', N, I, J, L, L', pu, pw, hg, hN, rfl, rfl, hR⟩ := h
  have hS : RelS B (shC, I, L, pX (some g) (some g') pu pw) (shR, J, L', pR) := RelS.mk hg hN hR
  obtain ⟨F, cms, M, s, z, ⟨hp, ht, hta, hd⟩, hl, hk, hr⟩ := id hR
  obtain ⟨n, n1, n2, n3, n4⟩ := id hta
  rcases feed_ask (d := 1899) (e := 1899) (L := L) (L' := L') (pa := some g) (pb := some g') (pu := pu) (pw := pw) n2 n3 n1 a1 a2 a3 a4 a5 with q | ⟨q0, v, q1, q2⟩
  · exact alk.ask hS q
  · refine ⟨v, _, _, q1, q2, RelS.mk hg hN (hR.bk hg ⟨hp.cg (fun c c1 c2 => f20_o _ _ _ _ _ _ _ _ _ (by omega) (by omega)) (fun c c1 c2 => f20_o _ _ _ _ _ _ _ _ _ (by omega) (by omega)), ?_, ?_, ?_⟩ (fun c c0 c1 c2 => f20_o _ _ _ _ _ _ _ _ _ c0 c2) (by rw [f20_0]; rfl) (by rw [f20_0]; rfl) (fun c c0 c1 c2 => f20_o _ _ _ _ _ _ _ _ _ c0 c2) (fun q q1 _ _ => by rw [f20_0, if_neg q1]))⟩
    · exact ht.cg (by rw [f20_0]; rfl) (by rw [f20_0]; rfl) (by rw [f20_0]; rfl) (by rw [f20_0]; rfl)
    · exact ⟨n + 20, q0, by rw [f20_0]; rfl, by rw [f20_0]; rfl, f20_tape n4 a1 a2 a3 a4 a5⟩
    · rw [f20_0, f20_0]; exact hd
theorem a_cut (h : RelS B S T) (x : Int32) : alk B (jv 1900 173 0 [some (.ref 0), some (.int x)] [] S) (jv 1900 227 0 [some (.ref 0), some (.int x)] [] T) := by
  obtain ⟨g, g', N, I, J, L, L', pu, pw, hg, hN, rfl, rfl, hR⟩ := h
  have hS : RelS B (shC, I, L, pX (some g) (some g') pu pw) (shR, J, L', pR) := RelS.mk hg hN hR
  obtain ⟨F, cms, M, s, z, ⟨hp, ht, hta, hd⟩, hl, hk, hr⟩ := id hR
  obtain ⟨n, n1, n2, n3, n4⟩ := id hta
  rcases cut_ask (d := 1900) (e := 1900) (L := L) (L' := L') (pa := some g) (pb := some g') (pu := pu) (pw := pw) n2 n3 n1 x with ⟨m, q0, q1, q2⟩ | q
  · refine ⟨_, _, _, q1, q2, RelS.mk hg hN (hR.bk hg ⟨hp.cg (fun c c1 c2 => j_up_cell _ (by omega) _ _) (fun c c1 c2 => j_up_cell _ (by omega) _ _), ?_, ?_, ?_⟩ (fun c c0 c1 c2 => j_up_cell _ c0 _ _) (j_up_own2 _ _ _ (by decide)) (j_up_own2 _ _ _ (by decide)) (fun c c0 c1 c2 => j_up_cell _ c0 _ _) (fun q q1 _ _ => j_up_own2 _ _ _ q1))⟩
    · exact ht.cg (j_up_own2 _ _ _ (by decide)) (j_up_own2 _ _ _ (by decide)) (j_up_own2 _ _ _ (by decide)) (j_up_own2 _ _ _ (by decide))
    · exact ⟨m, by omega, by rw [j_up_eq], by rw [j_up_eq], fun i hi => by rw [j_up_cell _ (by decide), j_up_cell _ (by decide)]; exact n4 i (by omega)⟩
    · rw [j_up_own2 _ _ _ (by decide), j_up_own2 _ _ _ (by decide)]; exact hd
  · exact alk.ask hS q
end SECG
