/-! RULES: tables are kept -/
section PARX
variable {T : Nat} {K P : Nat → Nat} {W : Nat → List Nat} {U : Nat → Nat} {Q : Nat} {nm : Nat → List Nat} {kd nb : Nat → Nat} {nl nt nu s : Nat} {cw : Nat → List Nat} {rho : Nat → Nat} {lam : Nat} {pa pb pw : Option Nat}
theorem pS.st {g : Nat} (hg : g = 38 ∨ g = 49) {wl : Nat → Nat} {np : Nat} {I J : Nat → Nat → Int32} {L L' : Nat → Nat → Int64} {now nc nr : Nat} (hS : pS g T K P W U Q nm kd nb nl nt nu wl np now nc nr I L J L') {now3 nc3 nr3 : Nat} {I3 J3 : Nat → Nat → Int32} {L3 L3' : Nat → Nat → Int64} (st : eSt g T 0 now nc nr I L J L' now3 nc3 nr3 I3 L3 J3 L3') (h29 : J3 0 29 = 0) : pS g T K P W U Q nm kd nb nl nt nu wl np now3 nc3 nr3 I3 L3 J3 L3' := by
  obtain ⟨ok, s1, s2, s3, s4, s5, s6, s7, s8, s9, s10, s11⟩ := hS
  have eI : ∀ c, g + 5 < c → I3 c = I c := fun c h => st.1.1 c (by omega) (Or.inr h)
  have eJ : ∀ c, c = 27 ∨ c = 29 ∨ c = 30 ∨ c = 34 → J3 c = J c := fun c h => st.2.1.1 c (by omega) (by omega) (by omega)
  have eL : ∀ c, c = 31 ∨ c = 32 → L3' c = L' c := fun c h => st.2.1.2.2.2.2.1 c (by omega) (by omega)
  refine ⟨eSt.ok hg ok st h29, (st.1.2.1 11 (by decide)).trans s1, (st.1.2.1 12 (by decide)).trans s2, (st.1.2.1 13 (by decide)).trans s3, s4, (st.2.1.2.2.2.1 45 (by decide) (by decide) (by decide) (by decide) (by decide)).trans s5, s6, ?_, ?_, ?_, s10, Nat.le_trans s11 st.2.2.1⟩
  · exact prL.mv s7 (Nat.le_refl _) st.2.2.2.2.1 st.2.2.2.2.2.1 (fun i _ => by rw [eI (g + 6) (by omega)]) (fun i _ => by rw [eJ 27 (by decide)]) st.1.2.2.1 st.2.1.2.1 st.2.1.2.2.2.2.2.1 (fun _ _ => rfl)
  · exact prU.mv s8 (Nat.le_refl _) (Nat.le_refl _) st.2.2.2.2.1 st.2.2.2.2.2.1 (fun i _ => by rw [eI (g + 7) (by omega)]) (fun i _ => by rw [eJ 34 (by decide)]) st.1.2.2.1 st.2.1.2.1 st.2.1.2.2.2.2.2.1 (fun _ _ => rfl)
  · exact prT.mv s9 (Nat.le_refl _) (fun i _ => by rw [eJ 29 (by decide)]) (fun i _ => by rw [eJ 30 (by decide)]) (fun i _ => by rw [eI (g + 10) (by omega)]) (fun i _ => by rw [eI (g + 8) (by omega)]) (fun i _ => by rw [eI (g + 9) (by omega)]) (fun i _ => by rw [eL 31 (by decide)]) (fun i _ => by rw [eL 32 (by decide)])
theorem tb44_cf38 {d : Nat} {I : Nat → Nat → Int32} {L : Nat → Nat → Int64} (h0 : I 27 0 ≠ 0) (l1 : Int64) (l3 : Int32) : jv (d + 2) 15 44 [some (.ref 27), some (.long l1), none, some (.int l3)] [] (shC, I, L, pX pa pb (some 38) pw) = some (none, (shC, I, L, pX pa pb (some 38) pw)) := by
  have s81 : jv (d + 2) 15 81 [some (.ref 27), some (.long l1), none, some (.int l3)] [] (shC, I, L, pX pa pb (some 38) pw) = some (none, (shC, I, L, pX pa pb (some 38) pw)) := by
    rw [B15_81_g38, jgo_some (d := d + 1) rfl (expect_cf h0 _)]
    dsimp only [Option.toList_some, Option.toList_none, List.cons_append, List.nil_append]
    rw [B15_87_g38, if_pos rfl, B15_116_g38]
  rw [B15_44_g38]
  by_cases q : l3 < I 27 6
  · rw [if_pos q, jgo_some (d := d + 1) rfl (now_cf h0 _)]
    dsimp only [Option.toList_some, Option.toList_none, List.cons_append, List.nil_append]
    rw [B15_58_g38, if_pos rfl, s81]
  · rw [if_neg q, s81]
theorem tab_loop38 {d e np : Nat} {I J : Nat → Nat → Int32} {L L' : Nat → Nat → Int64} (tk : tkS T K P W U I L J L') (hnt : nt < 8) (hnp : np ≤ 12 * nt) (hg12 : I 38 12 = nI nt) (l1 : Int64) : ∀ (r j now1 c : Nat) (I1 J1 : Nat → Nat → Int32) (L1' : Nat → Nat → Int64) (l3 : Int32) (l4 l6 : Int64), T - now1 < r → tbP 38 T nt np I J L' j now1 I1 J1 L1' → 1 ≤ j → j ≤ 12 → c ≤ now1 →
    (∃ j2 now2 I2 J2 L2' c2, 1 ≤ j2 ∧ j2 ≤ 12 ∧ now1 ≤ now2 ∧ jv (d + 4) 15 44 [some (.ref 27), some (.long l1), none, some (.int (nI c))] [] (shC, I1, L, pX pa pb (some 38) pw) = jv (d + 4) 15 87 [some (.ref 27), some (.long l1), none, some (.int c2)] [.int 1] (shC, I2, L, pX pa pb (some 38) pw) ∧ jv (e + 3) 264 143 [some (.ref 0), some (.int (nI j)), some (.int 1), some (.int l3), some (.long l4), none, some (.long l6), none] [.int (if K now1 = 44 then 1 else 0)] (shR, J1, L1', pR) = some (none, (shR, J2, L2', pR)) ∧ tbP 38 T nt np I J L' j2 now2 I2 J2 L2') ∨
    (∃ I2 J2 L2', jv (d + 4) 15 44 [some (.ref 27), some (.long l1), none, some (.int (nI c))] [] (shC, I1, L, pX pa pb (some 38) pw) = some (none, (shC, I2, L, pX pa pb (some 38) pw)) ∧ jv (e + 3) 264 143 [some (.ref 0), some (.int (nI j)), some (.int 1), some (.int l3), some (.long l4), none, some (.long l6), none] [.int (if K now1 = 44 then 1 else 0)] (shR, J1, L1', pR) = some (none, (shR, J2, L2', pR)) ∧ tbB 38 T I J L L' I2 J2 L2') := by
  have hg : 38 = 38 ∨ 38 = 49 := by decide
  have hT := tk.1
  intro r
  induction r with
  | zero => intro j now1 c I1 J1 L1' l3 l4 l6 hr; exact absurd hr (Nat.not_lt_zero _)
  | succ r ih =>
    intro j now1 c I1 J1 L1' l3 l4 l6 hr h hj1 hj hc
    obtain ⟨h1, p10, p45, p29, pp, pi⟩ := id h
    have tk1 := h1.tk hg tk
    obtain ⟨f, a1, a2, a3, a4, a5⟩ := id h1
    by_cases q : K now1 = 44
    · have lt : now1 < T := tk1.lt a1 q (by decide)
      have h2 : tbP 38 T nt np I J L' j (now1 + 1) (j_up I1 27 7 (nI (now1 + 1))) (j_up J1 0 28 (nI (now1 + 1))) L1' := ⟨h1.adv hg lt, by rw [j_up_cell _ (by decide)]; exact p10, by rw [j_up_own, if_neg (by decide)]; exact p45, by rw [j_up_cell _ (by decide)]; exact p29, fun i hi => by rw [j_up_cell _ (by decide), j_up_cell _ (by decide)]; exact pp i hi, pi⟩
      have cs : jv (d + 4) 15 44 [some (.ref 27), some (.long l1), none, some (.int (nI c))] [] (shC, I1, L, pX pa pb (some 38) pw) = jgo jTT jMM (d + 4) 16 [.ref 27] (shC, j_up I1 27 7 (nI (now1 + 1)), L, pX pa pb (some 38) pw) (fun v S => jv (d + 4) 15 75 [some (.ref 27), some (.long l1), none, some (.int (nI c))] (v.toList ++ []) S) := by
        rw [B15_44_g38, tk1.2.1, if_pos (nI_lt (by omega) (by omega)), show (44 : Int32) = nI 44 from rfl, jgo_some (d := d + 3) rfl (now_c tk1 a1 a2 a3 (k := 44) (by decide)), if_pos q]
        dsimp only [Option.toList_some, Option.toList_none, List.cons_append, List.nil_append]
        rw [B15_58_g38, if_neg (by decide), a3, show nI now1 + 1 = nI (now1 + 1) from nI_add now1 1]
      have rs : jv (e + 3) 264 143 [some (.ref 0), some (.int (nI j)), some (.int 1), some (.int l3), some (.long l4), none, some (.long l6), none] [.int (if K now1 = 44 then 1 else 0)] (shR, J1, L1', pR) = jv (e + 3) 264 4 [some (.ref 0), some (.int (nI j)), some (.int 1), some (.int l3), some (.long l4), none, some (.long l6), none] [] (shR, j_up J1 0 28 (nI (now1 + 1)), L1', pR) := by
        rw [if_pos q, B264_143, if_neg (by decide), B264_158, a5, show nI now1 + 1 = nI (now1 + 1) from nI_add now1 1]
      rw [cs, rs]
      rcases point_sim38 (d := d) (e := e) (pa := pa) (pb := pb) (pw := pw) tk hnt hnp hg12 hj h2 (some (.int l3)) (some (.long l4)) none (some (.long l6)) none with ⟨now2, I2, J2, L2', m3, m4, m6, lt2, j12, ec, er, h3⟩ | ⟨I2, J2, ec, er, hb⟩
      · have cs2 : jgo jTT jMM (d + 4) 16 [.ref 27] (shC, j_up I1 27 7 (nI (now1 + 1)), L, pX pa pb (some 38) pw) (fun v S => jv (d + 4) 15 75 [some (.ref 27), some (.long l1), none, some (.int (nI c))] (v.toList ++ []) S) = jv (d + 4) 15 44 [some (.ref 27), some (.long l1), none, some (.int (nI (c + 1)))] [] (shC, I2, L, pX pa pb (some 38) pw) := by
          rw [jgo_some (d := d + 3) rfl ec]
          dsimp only [Option.toList_some, Option.toList_none, List.cons_append, List.nil_append]
          rw [B15_75_g38, show nI c + 1 = nI (c + 1) from nI_add c 1]
        rw [cs2, er]
        have h2T := h1.2.1
        rcases ih (j + 1) now2 (c + 1) I2 J2 L2' m3 m4 m6 (by omega) h3 (by omega) (by omega) (by omega) with ⟨j2, now3, I3, J3, L3', c3, z1, z2, z3, z4, z5, z6⟩ | z
        · exact Or.inl ⟨j2, now3, I3, J3, L3', c3, z1, z2, by omega, z4, z5, z6⟩
        · exact Or.inr z
      · have cs2 : jgo jTT jMM (d + 4) 16 [.ref 27] (shC, j_up I1 27 7 (nI (now1 + 1)), L, pX pa pb (some 38) pw) (fun v S => jv (d + 4) 15 75 [some (.ref 27), some (.long l1), none, some (.int (nI c))] (v.toList ++ []) S) = some (none, (shC, I2, L, pX pa pb (some 38) pw)) := by
          rw [jgo_some (d := d + 3) rfl ec]
          dsimp only [Option.toList_some, Option.toList_none, List.cons_append, List.nil_append]
          rw [B15_75_g38, tb44_cf38 (d := d + 2) hb.2.1.f.1]
        rw [cs2, er]
        exact Or.inr ⟨I2, J2, L1', rfl, rfl, hb⟩
    · have cs : jv (d + 4) 15 44 [some (.ref 27), some (.long l1), none, some (.int (nI c))] [] (shC, I1, L, pX pa pb (some 38) pw) = jv (d + 4) 15 81 [some (.ref 27), some (.long l1), none, some (.int (nI c))] [] (shC, I1, L, pX pa pb (some 38) pw) := by
        rw [B15_44_g38]
        by_cases q2 : nI c < I1 27 6
        · rw [if_pos q2, show (44 : Int32) = nI 44 from rfl, jgo_some (d := d + 3) rfl (now_c tk1 a1 a2 a3 (k := 44) (by decide)), if_neg q]
          dsimp only [Option.toList_some, Option.toList_none, List.cons_append, List.nil_append]
          rw [B15_58_g38, if_pos rfl]
        · rw [if_neg q2]
      have rs : jv (e + 3) 264 143 [some (.ref 0), some (.int (nI j)), some (.int 1), some (.int l3), some (.long l4), none, some (.long l6), none] [.int (if K now1 = 44 then 1 else 0)] (shR, J1, L1', pR) = jv (e + 3) 264 165 [some (.ref 0), some (.int (nI j)), some (.int 0), some (.int l3), some (.long l4), none, some (.long l6), none] [] (shR, J1, L1', pR) := by
        rw [if_neg q, B264_143, if_pos rfl, B264_158, Int32_add0, j_up_id, B264_4, if_pos rfl]
      rw [cs, rs, B15_81_g38, B264_165, show (59 : Int32) = nI 59 from rfl]
      rcases h1.want (d := d + 2) (e := e + 1) (pa := pa) (pb := pb) (pu := some 38) (pw := pw) hg tk (k := 59) (by decide) (by decide) with ⟨lt3, ec3, er3, h3, q3⟩ | ⟨I3, J3, ec3, er3, hb, q3⟩
      · refine Or.inl ⟨j, now1 + 1, _, _, L1', nI c, hj1, hj, by omega, ?_, ?_, h3, by rw [j_up_cell _ (by decide)]; exact p10, by rw [j_up_own, if_neg (by decide)]; exact p45, by rw [j_up_cell _ (by decide)]; exact p29, fun i hi => by rw [j_up_cell _ (by decide), j_up_cell _ (by decide)]; exact pp i hi, pi⟩
        · rw [jgo_some (d := d + 3) rfl ec3]
          rfl
        · rw [show nI 59 = nI (kR 59) from rfl, jgo_some (d := e + 2) rfl er3]
          dsimp only [Option.toList_some, Option.toList_none, List.cons_append, List.nil_append]
          rw [B264_171]
      · refine Or.inr ⟨I3, J3, L1', ?_, ?_, hb⟩
        · rw [jgo_some (d := d + 3) rfl ec3]
          dsimp only [Option.toList_some, Option.toList_none, List.cons_append, List.nil_append]
          rw [B15_87_g38, if_pos rfl, B15_116_g38]
        · rw [show nI 59 = nI (kR 59) from rfl, jgo_some (d := e + 2) rfl er3]
          dsimp only [Option.toList_some, Option.toList_none, List.cons_append, List.nil_append]
          rw [B264_171]
/-- a table is kept -/
theorem pS.table38 {wl : Nat → Nat} {np j : Nat} {I J : Nat → Nat → Int32} {L L' : Nat → Nat → Int64} {now nc nr : Nat} (hS : pS 38 T K P W U Q nm kd nb nl nt nu wl np now nc nr I L J L') (hl : nt < 8) (hj : 1 ≤ j ∧ j ≤ 12) {now5 : Nat} {I5 J5 : Nat → Nat → Int32} {L5' : Nat → Nat → Int64} (hn : now ≤ now5) (h : tbP 38 T nt np I J L' j now5 I5 J5 L5') {w : List Nat} (hw : okW w) (hnew : ¬ hadW Q nm 0 cw0 w) : sFr 38 I (j_up (j_up (j_up (j_up I5 32 Q 3) 33 Q (nI nt)) 27 14 (nI (Q + 1))) 38 12 (nI (nt + 1))) L (j_up L 31 Q (lgN (nC w))) J (j_up (j_up J5 30 nt (nI (np + j))) 0 46 (nI (nt + 1))) L' (j_up L5' 28 nt (lgN (nR w))) ∧ pS 38 T K P W U (Q + 1) (upW nm Q w) (upN kd Q 3) (upN nb Q nt) nl (nt + 1) nu wl (np + j) now5 nc nr (j_up (j_up (j_up (j_up I5 32 Q 3) 33 Q (nI nt)) 27 14 (nI (Q + 1))) 38 12 (nI (nt + 1))) (j_up L 31 Q (lgN (nC w))) (j_up (j_up J5 30 nt (nI (np + j))) 0 46 (nI (nt + 1))) (j_up L5' 28 nt (lgN (nR w))) := by
  have hg : 38 = 38 ∨ 38 = 49 := by decide
  obtain ⟨ok, s1, s2, s3, s4, s5, s6, s7, s8, s9, s10, s11⟩ := hS
  obtain ⟨h1, p10, p45, p29, pp, pi⟩ := h
  obtain ⟨⟨f1, f2, f3, f4, f5, f6, f7, f8, f9, f10⟩, b1, b2, b3, b4, b5⟩ := id h1
  have hT := ok.1.1
  obtain ⟨_, kw, hN, hC, a5, a6, a7, a8, a9, a10, a11, a12, a13⟩ := id ok
  -- names as they were
  have tk5 := h1.tk hg ok.1
  have hN5 : nmS Q nm kd nb nl nt nu I5 L J5 L5' := hN.frame (f4 14 (by decide) (by decide) (by decide)) rfl (f1 32 (by decide) (by omega)) (f1 33 (by decide) (by omega)) (f8 39 (by decide) (by decide) (by decide) (by decide)) (f8 46 (by decide) (by decide) (by decide) (by decide)) (f8 49 (by decide) (by decide) (by decide) (by decide)) (f9 26 (by decide) (by decide)) (f9 28 (by decide) (by decide)) (f9 33 (by decide) (by decide))
  have ok5 : pOk 38 T K P W U Q nm kd nb nl nt nu 0 cw0 rho0 now5 nc nr I5 L J5 L5' := ⟨tk5, kw, hN5, hC.frame ((f4 16 (by decide) (by decide) (by decide)).trans hC.2.1) ((f8 52 (by decide) (by decide) (by decide) (by decide)).trans hC.2.2.1) (fun i hi => absurd hi (Nat.not_lt_zero _)) (fun i hi => absurd hi (Nat.not_lt_zero _)) (fun i hi => absurd hi (Nat.not_lt_zero _)) (fun x hx => by rw [f8 36 (by decide) (by decide) (by decide) (by decide)]; exact hx), b1, by omega, by omega, b2, b4, b3, b5, (congrFun f5 10).trans a12, (f8 36 (by decide) (by decide) (by decide) (by decide)).trans a13⟩
  have f : tF 38 I5 (j_up (j_up (j_up (j_up I5 32 Q 3) 33 Q (nI nt)) 27 14 (nI (Q + 1))) 38 12 (nI (nt + 1))) L (j_up L 31 Q (lgN (nC w))) J5 (j_up (j_up J5 30 nt (nI (np + j))) 0 46 (nI (nt + 1))) L5' (j_up L5' 28 nt (lgN (nR w))) :=
    ⟨fun c h1 h2 h3 h4 => by rw [j_up_cell _ (by omega), j_up_cell _ (by omega), j_up_cell _ (by omega), j_up_cell _ (by omega)], fun q h1 => by rw [j_up_cell _ (by decide), j_up_own, if_neg h1, j_up_cell _ (by decide), j_up_cell _ (by decide)], fun q h1 => by rw [j_up_own, if_neg (by omega), j_up_cell _ (by decide), j_up_cell _ (by decide), j_up_cell _ (by decide)], fun c h1 => by rw [j_up_cell _ h1], fun c h1 h2 h3 h4 h5 => by rw [j_up_cell _ h1, j_up_cell _ h4], fun q h1 h2 h3 h4 => by rw [j_up_own, if_neg h3, j_up_cell _ (by decide)], fun c h1 h2 h3 h4 h5 => by rw [j_up_cell _ h2]⟩
  have n1 := nmS.tell (I1 := j_up (j_up (j_up (j_up I5 32 Q 3) 33 Q (nI nt)) 27 14 (nI (Q + 1))) 38 12 (nI (nt + 1))) (L1 := j_up L 31 Q (lgN (nC w))) (J1 := j_up (j_up J5 30 nt (nI (np + j))) 0 46 (nI (nt + 1))) (L1' := j_up L5' 28 nt (lgN (nR w))) hN5 (by have := hN.2.2.1; have := hN.2.2.2.1; have := hN.2.2.2.2.1; omega) hw (fun q hq z => hnew (Or.inr (Or.inr (Or.inr (Or.inl ⟨q, hq, z⟩))))) (k := 3) (b := nt) (nl2 := nl) (nt2 := nt + 1) (nu2 := nu) ⟨Nat.le_refl _, hN.2.2.1⟩ ⟨by omega, by omega⟩ ⟨Nat.le_refl _, hN.2.2.2.2.1⟩ (by rw [j_up_cell _ (by decide), j_up_own, if_pos rfl]) (by rw [j_up_own, if_neg (by decide), j_up_cell _ (by decide)]; exact hN5.2.2.2.2.2.1) (by rw [j_up_own, if_pos rfl]) (by rw [j_up_own, if_neg (by decide), j_up_cell _ (by decide)]; exact hN5.2.2.2.2.2.2.2.1) (fun q hq => by rw [j_up_own, if_neg (by omega)]) (by rw [j_up_own, if_pos rfl]) (fun q hq => by rw [j_up_cell _ (by decide), j_up_cell _ (by decide), j_up_cell _ (by decide), j_up_own, if_neg (by omega)]) (by rw [j_up_cell _ (by decide), j_up_cell _ (by decide), j_up_cell _ (by decide), j_up_own, if_pos rfl]; rfl) (fun q hq => by rw [j_up_cell _ (by decide), j_up_cell _ (by decide), j_up_own, if_neg (by omega), j_up_cell _ (by decide)]) (by rw [j_up_cell _ (by decide), j_up_cell _ (by decide), j_up_own, if_pos rfl]) (fun i hi => by rw [j_up_cell _ (by decide)]) (fun i hi => by rw [j_up_own, if_neg (by omega)]) (fun i hi => by rw [j_up_cell _ (by decide)]) (Or.inr (Or.inl ⟨rfl, rfl, rfl, rfl, rfl, by rw [j_up_own, if_pos rfl]⟩))
  have gI : ∀ c, 38 < c → (j_up (j_up (j_up (j_up I5 32 Q 3) 33 Q (nI nt)) 27 14 (nI (Q + 1))) 38 12 (nI (nt + 1))) c = I5 c := fun c hc => by rw [j_up_cell _ (by omega), j_up_cell _ (by omega), j_up_cell _ (by omega), j_up_cell _ (by omega)]
  have g1 : ∀ c, c < 5 → ∀ i, i < nc → (j_up (j_up (j_up (j_up I5 32 Q 3) 33 Q (nI nt)) 27 14 (nI (Q + 1))) 38 12 (nI (nt + 1))) (38 + 1 + c) i = I (38 + 1 + c) i := fun c hc i hi => by rw [gI (38 + 1 + c) (by omega), f1 (38 + 1 + c) (by omega) (by omega)]
  have gJ : ∀ c, c ≠ 0 → c ≠ 30 → (j_up (j_up J5 30 nt (nI (np + j))) 0 46 (nI (nt + 1))) c = J5 c := fun c h1 h2 => by rw [j_up_cell _ h1, j_up_cell _ h2]
  have g2 : ∀ c, c < 4 → ∀ i, i < nr → (j_up (j_up J5 30 nt (nI (np + j))) 0 46 (nI (nt + 1))) (21 + c) i = J (21 + c) i := fun c hc i hi => by rw [gJ (21 + c) (by omega) (by omega), f6 (21 + c) (by omega) (by omega) (by omega)]
  have g3 : ∀ i, i < nr → j_up L5' 28 nt (lgN (nR w)) 25 i = L' 25 i := fun i hi => by rw [j_up_cell _ (by decide), f9 25 (by decide) (by decide)]
  refine ⟨(tbF.fr hg h1.1).trans (sFr.tell hg f), pOk.tell hg ok5 f n1, ?_, ?_, ?_, by omega, ?_, by omega, ?_, ?_, ?_, s10, Nat.le_trans s11 hn⟩
  · rw [j_up_own, if_neg (by decide), j_up_cell _ (by decide), j_up_cell _ (by decide), j_up_cell _ (by decide), f5]; exact s1
  · rw [j_up_own, if_pos rfl]
  · rw [j_up_own, if_neg (by decide), j_up_cell _ (by decide), j_up_cell _ (by decide), j_up_cell _ (by decide), f5]; exact s3
  · rw [j_up_own, if_neg (by decide), j_up_cell _ (by decide)]; exact p45
  · exact prL.mv s7 (by omega) (Nat.le_refl _) (Nat.le_refl _) (fun i hi => by rw [gI (38 + 6) (by decide), f1 (38 + 6) (by decide) (by omega)]) (fun i hi => by rw [gJ 27 (by decide) (by decide), f6 27 (by decide) (by decide) (by decide)]) g1 g2 g3 (fun _ _ => rfl)
  · exact prU.mv s8 (Nat.le_refl _) (by omega) (Nat.le_refl _) (Nat.le_refl _) (fun i hi => by rw [gI (38 + 7) (by decide), f1 (38 + 7) (by decide) (by omega)]) (fun i hi => by rw [gJ 34 (by decide) (by decide), f6 34 (by decide) (by decide) (by decide)]) g1 g2 g3 (fun _ _ => rfl)
  · intro t ht
    rcases Nat.lt_or_eq_of_le (show t ≤ nt by omega) with z | z
    · exact prT.mv s9 (by omega) (fun i hi => by rw [gJ 29 (by decide) (by decide)]; exact (f7 i hi).1) (fun i hi => by rw [j_up_cell _ (by decide), j_up_own, if_neg (by omega)]; exact (f7 i hi).2) (fun i hi => by rw [gI (38 + 10) (by decide)]; exact f3 i hi) (fun i hi => by rw [gI (38 + 8) (by decide)]; exact (f2 i hi).1) (fun i hi => by rw [gI (38 + 9) (by decide)]; exact (f2 i hi).2) (fun i hi => by rw [j_up_cell _ (by decide)]; exact (f10 i hi).1) (fun i hi => by rw [j_up_cell _ (by decide)]; exact (f10 i hi).2) t z
    · subst z
      refine ⟨np, j, hj.1, hj.2, Nat.le_refl _, ?_, ?_, ?_, fun i hi => ?_, fun i hi => ?_⟩
      · rw [gJ 29 (by decide) (by decide)]; exact p29
      · rw [j_up_cell _ (by decide), j_up_own, if_pos rfl]
      · rw [gI (38 + 10) (by decide)]; exact p10
      · rw [gI (38 + 8) (by decide), gI (38 + 9) (by decide), j_up_cell _ (by decide), j_up_cell _ (by decide)]; exact pp i hi
      · rw [j_up_cell _ (by decide)]; exact pi i hi
theorem table_sim38 {d e : Nat} (hd : 140 ≤ d) (he : 140 ≤ e) {wl : Nat → Nat} {np : Nat} {I J : Nat → Nat → Int32} {L L' : Nat → Nat → Int64} {now nc nr : Nat} (hS : pS 38 T K P W U Q nm kd nb nl nt nu wl np now nc nr I L J L') (hK : K now = 97) : jW2 (jv d 15 0 [some (.ref 27), none, none, none] [] (shC, I, L, pX pa pb (some 38) pw)) (jv e 262 43 [some (.ref 0), none, none, none, none, none] [.int 2] (shR, J, L', pR)) (sQ 38 T K P W U now I L J L' (pX pa pb (some 38) pw)) := by
  have hg : 38 = 38 ∨ 38 = 49 := by decide
  obtain ⟨ok, s1, s2, s3, s4, s5, s6, s7, s8, s9, s10, s11⟩ := id hS
  obtain ⟨tk, kw, hN, hC, a5, a6, a7, a8, a9, a10, a11, a12, a13⟩ := id ok
  have hT := tk.1
  have tq := tk.2.2.2.1 now a5
  obtain ⟨d, rfl⟩ : ∃ d', d = d' + 5 := ⟨d - 5, by omega⟩
  obtain ⟨e, rfl⟩ : ∃ e', e = e' + 5 := ⟨e - 5, by omega⟩
  rw [B15_0_g38, s2, B262_43, a11, if_pos (j_in_nI (by omega) (by decide)), nI_clamp (by omega), tq.2.2.2.1, if_neg (by decide), if_neg (by decide), B262_80, if_pos rfl, hN.2.2.2.2.2.2.1]
  by_cases hl : nt = 8
  · rw [if_pos (by rw [hl]; rfl), B262_108, show (5 : Int32) = nI 5 from rfl, jgo_some (d := e + 4) rfl (fails_rk a9 5 (P now))]
    have c12 : jv (d + 4) 12 0 [some (.ref 27), some (.int (nI nt)), some (.int 8), none, none] [] (shC, I, L, pX pa pb (some 38) pw) = some (some (.long 0), (shC, flC I 5 (P now), L, pX pa pb (some 38) pw)) := by
      rw [B12_0, if_neg (by rw [hl]; decide), a10, show (5 : Int32) = nI 5 from rfl, jgo_some (d := d + 3) rfl (fail_c tk a5 a8 5)]
      dsimp only [Option.toList_some, Option.toList_none, List.cons_append, List.nil_append]
      rw [B12_14]
    have hf := eSt.fl hg ok.st (f := 5) (p := P now) (by decide) (by omega)
    rw [jgo_some (d := d + 4) rfl c12]
    dsimp only [Option.toList_some, Option.toList_none, List.cons_append, List.nil_append]
    rw [B15_13_g38, if_neg hf.f.1, B262_114]
    exact jW2_some (sQ.bad (sFr.of hg hf.1 hf.2.1) hf.b)
  have hl2 : nt < 8 := by have := hN.2.2.2.1; omega
  rw [if_neg (show ¬ nI nt = (8 : Int32) from fun z => hl ((nI_eq (b := 8) (by omega) (by decide)).mp z)), B262_94, if_neg (by decide)]
  rcases head_sim (d := d + 1) (e := e + 3) (pa := pa) (pb := pb) (pu := some 38) (pw := pw) hg ok hK hl2 (by decide) 2 (nI (P now)) with ⟨w, I3, J3, hw, hnew, ec, er, st3, h293⟩ | ⟨x, I3, J3, m1, c1, m2, r2, ec, er, hf⟩
  case inr =>
    rw [show (8 : Int32) = nI 8 from rfl, jgo_some (d := d + 4) rfl ec, er]
    dsimp only [Option.toList_some, Option.toList_none, List.cons_append, List.nil_append]
    rw [B15_13_g38, if_neg hf.f.1]
    exact jW2_some (sQ.bad (sFr.of hg hf.1 hf.2.1) hf.b)
  rw [show (8 : Int32) = nI 8 from rfl, jgo_some (d := d + 4) rfl ec, er]
  dsimp only [Option.toList_some, Option.toList_none, List.cons_append, List.nil_append]
  have hS3 := pS.st hg hS st3 h293
  have fr3 := sFr.of hg st3.1 st3.2.1
  obtain ⟨ok3, u1, u2, u3, u4, u5, u6, _⟩ := id hS3
  obtain ⟨tk3, kw3, hN3, hC3, c5, c6, c7, c8, c9, c10, c11, c12, c13⟩ := id ok3
  have j46 := hN3.2.2.2.2.2.2.1
  rw [B15_13_g38, if_pos c8, u2, if_pos (j_in_nI hl2 (by decide)), nI_clamp (by omega), B262_137, if_pos h293, if_neg (by decide), if_pos rfl, j46, if_pos (j_in_nI (by omega) (by decide)), nI_clamp (by omega), u5]
  have t0 : tbP 38 T nt np I3 J3 L' 0 (now + 1 + 1 + 1) (j_up I3 48 nt 0) (j_up J3 29 nt (nI np)) L' := by
    refine ⟨⟨⟨fun c a b => j_up_cell _ (by omega) _ _, fun i a => ⟨by rw [j_up_cell _ (by decide)], by rw [j_up_cell _ (by decide)]⟩, fun i a => ?_, fun q a b c => by rw [j_up_cell _ (by decide)], j_up_cell _ (by decide) _ _, fun c a b c' => j_up_cell _ b _ _, fun i a => ⟨by rw [j_up_own, if_neg (by omega)], by rw [j_up_cell _ (by decide)]⟩, fun q a b c c' => by rw [j_up_cell _ (by decide)], fun _ _ _ => rfl, fun _ _ => ⟨rfl, rfl⟩⟩, c5, by rw [j_up_cell _ (by decide)]; exact c8, by rw [j_up_cell _ (by decide)]; exact c10, by rw [j_up_cell _ (by decide)]; exact h293, by rw [j_up_cell _ (by decide)]; exact c11⟩, ?_, by rw [j_up_cell _ (by decide)]; exact u5, by rw [j_up_own, if_pos rfl], fun i hi => absurd hi (Nat.not_lt_zero _), fun i hi => absurd hi (Nat.not_lt_zero _)⟩
    · show j_up _ _ _ _ 48 i = _
      rw [j_up_own, if_neg (by omega)]
    · show j_up _ _ _ _ 48 nt = _
      rw [j_up_own, if_pos rfl]; rfl
  -- what both do with the points
  have pts : (∃ j now2 I2 J2 L2' c2, 1 ≤ j ∧ j ≤ 12 ∧ now + 1 + 1 + 1 ≤ now2 ∧ jgo jTT jMM (d + 5) 16 [.ref 27] (shC, j_up I3 48 nt 0, L, pX pa pb (some 38) pw) (fun v S => jv (d + 5) 15 42 [some (.ref 27), some (.long (lgN (nC w))), none, none] (v.toList ++ []) S) = jv (d + 5) 15 87 [some (.ref 27), some (.long (lgN (nC w))), none, some (.int c2)] [.int 1] (shC, I2, L, pX pa pb (some 38) pw) ∧ jv (e + 4) 264 0 [some (.ref 0), none, none, none, none, none, none, none] [] (shR, j_up J3 29 nt (nI np), L', pR) = some (none, (shR, J2, L2', pR)) ∧ tbP 38 T nt np I3 J3 L' j now2 I2 J2 L2') ∨
      (∃ I2 J2 L2', jgo jTT jMM (d + 5) 16 [.ref 27] (shC, j_up I3 48 nt 0, L, pX pa pb (some 38) pw) (fun v S => jv (d + 5) 15 42 [some (.ref 27), some (.long (lgN (nC w))), none, none] (v.toList ++ []) S) = some (none, (shC, I2, L, pX pa pb (some 38) pw)) ∧ jv (e + 4) 264 0 [some (.ref 0), none, none, none, none, none, none, none] [] (shR, j_up J3 29 nt (nI np), L', pR) = some (none, (shR, J2, L2', pR)) ∧ tbB 38 T I3 J3 L L' I2 J2 L2') := by
    rcases point_sim38 (d := d + 1) (e := e + 1) (j := 0) (pa := pa) (pb := pb) (pw := pw) tk3 hl2 u6 u2 (by decide) t0 none none none none none with ⟨now2, I2, J2, L2', m3, m4, m6, lt2, j12, ec, er, h3⟩ | ⟨I2, J2, ec, er, hb⟩
    · have cs2 : jgo jTT jMM (d + 5) 16 [.ref 27] (shC, j_up I3 48 nt 0, L, pX pa pb (some 38) pw) (fun v S => jv (d + 5) 15 42 [some (.ref 27), some (.long (lgN (nC w))), none, none] (v.toList ++ []) S) = jv (d + 5) 15 44 [some (.ref 27), some (.long (lgN (nC w))), none, some (.int (nI 0))] [] (shC, I2, L, pX pa pb (some 38) pw) := by
        rw [jgo_some (d := d + 4) rfl ec]
        dsimp only [Option.toList_some, Option.toList_none, List.cons_append, List.nil_append]
        rw [B15_42_g38]
        rfl
      have rs2 : jv (e + 4) 264 0 [some (.ref 0), none, none, none, none, none, none, none] [] (shR, j_up J3 29 nt (nI np), L', pR) = jv (e + 4) 264 143 [some (.ref 0), some (.int (nI 1)), some (.int 1), some (.int m3), some (.long m4), none, some (.long m6), none] [.int (if K now2 = 44 then 1 else 0)] (shR, J2, L2', pR) := by
        rw [B264_0]; exact er
      rw [cs2, rs2]
      rcases tab_loop38 (d := d + 1) (e := e + 1) (pa := pa) (pb := pb) (pw := pw) tk3 hl2 u6 u2 (lgN (nC w)) (T - now2 + 1) 1 now2 0 I2 J2 L2' m3 m4 m6 (by omega) h3 (by decide) (by decide) (by omega) with ⟨j2, now3, I4, J4, L4', c3, z1, z2, z3, z4, z5, z6⟩ | ⟨I4, J4, L4', z1, z2, z3⟩
      · exact Or.inl ⟨j2, now3, I4, J4, L4', c3, z1, z2, by omega, z4, z5, z6⟩
      · exact Or.inr ⟨I4, J4, L4', z1, z2, z3⟩
    · refine Or.inr ⟨I2, J2, L', ?_, ?_, hb⟩
      · rw [jgo_some (d := d + 4) rfl ec]
        dsimp only [Option.toList_some, Option.toList_none, List.cons_append, List.nil_append]
        rw [B15_42_g38, tb44_cf38 (d := d + 3) hb.2.1.f.1]
      · rw [B264_0]; exact er
  rcases pts with ⟨j, now2, I5, J5, L5', c2, hj1, hj2, ln, e1, e2, h⟩ | ⟨I5, J5, L5', e1, e2, hb⟩
  · obtain ⟨h1, p10, p45, p29, pp, pi⟩ := id h
    obtain ⟨⟨f1, f2, f3, f4, f5, f6, f7, f8, f9, f10⟩, b1, b2, b3, b4, b5⟩ := id h1
    have i12 : I5 38 12 = nI nt := (congrFun f5 12).trans u2
    have i14 : I5 27 14 = nI Q := (f4 14 (by decide) (by decide) (by decide)).trans hN3.2.1
    have k46 : J5 0 46 = nI nt := (f8 46 (by decide) (by decide) (by decide) (by decide)).trans j46
    have l46 : j_up J5 30 nt (nI (np + j)) 0 46 = nI nt := by rw [j_up_cell _ (by decide)]; exact k46
    have hQ : Q < 72 := by have := hN.2.2.1; have := hN.2.2.2.1; have := hN.2.2.2.2.1; omega
    rw [e1, jgo_some (d := e + 4) rfl e2]
    dsimp only [Option.toList_some, Option.toList_none, List.cons_append, List.nil_append]
    rw [B15_87_g38, if_neg (by decide), i12, jgo_some (d := d + 4) rfl (tell_c (d := d + 4) (q := Q) i14 hQ _ _ _), B262_232, k46, if_pos (j_in_nI (by omega) (by decide)), nI_clamp (by omega), p45, l46, if_pos (j_in_nI (by omega) (by decide)), nI_clamp (by omega), j_up_cell _ (show 0 ≠ 30 by decide), if_pos b4, B262_272, B262_335]
    dsimp only [Option.toList_some, Option.toList_none, List.cons_append, List.nil_append]
    rw [B15_103_g38, B15_116_g38, j_up_cell _ (show 38 ≠ 27 by decide), j_up_cell _ (show 38 ≠ 33 by decide), j_up_cell _ (show 38 ≠ 32 by decide), i12, show nI nt + 1 = nI (nt + 1) from nI_add nt 1]
    have r := pS.table38 hS3 hl2 ⟨hj1, hj2⟩ ln h hw hnew
    exact jW2_some (sQ.ok (fr3.trans r.1) (by omega) r.2)
  · obtain ⟨m, m1, m2, m3⟩ := hb.2.2
    have k46 : J5 0 46 = nI nt := m3.trans j46
    have l46 : j_up J5 30 nt (J5 0 45) 0 46 = nI nt := by rw [j_up_cell _ (by decide)]; exact k46
    rw [e1, jgo_some (d := e + 4) rfl e2]
    dsimp only [Option.toList_some, Option.toList_none, List.cons_append, List.nil_append]
    rw [B262_232, k46, if_pos (j_in_nI (by omega) (by decide)), nI_clamp (by omega), l46, if_pos (j_in_nI (by omega) (by decide)), nI_clamp (by omega), j_up_cell _ (show 0 ≠ 30 by decide), if_neg hb.2.1.f.2, B262_272, B262_335]
    refine jW2_some (sQ.bad ((fr3.trans hb.1).trans ⟨fun _ _ _ => rfl, rfl, rfl, fun _ _ _ _ _ _ => rfl, fun _ _ => rfl, fun _ _ _ => rfl, fun c h1 h2 => by rw [j_up_cell _ h1, j_up_cell _ (by omega)], fun q h => by rw [j_up_own, if_neg (by omega), j_up_cell _ (by decide)], fun c h => by rw [j_up_cell _ (by omega)]⟩) ?_)
    obtain ⟨f, p, f1, f2, f3, f4, f5, f6⟩ := hb.2.1
    exact ⟨f, p, f1, f2, f3, f4, by rw [j_up_own, if_neg (by decide), j_up_cell _ (by decide)]; exact f5, by rw [j_up_own, if_neg (by decide), j_up_cell _ (by decide)]; exact f6⟩
theorem tb44_cf49 {d : Nat} {I : Nat → Nat → Int32} {L : Nat → Nat → Int64} (h0 : I 27 0 ≠ 0) (l1 : Int64) (l3 : Int32) : jv (d + 2) 15 44 [some (.ref 27), some (.long l1), none, some (.int l3)] [] (shC, I, L, pX pa pb (some 49) pw) = some (none, (shC, I, L, pX pa pb (some 49) pw)) := by
  have s81 : jv (d + 2) 15 81 [some (.ref 27), some (.long l1), none, some (.int l3)] [] (shC, I, L, pX pa pb (some 49) pw) = some (none, (shC, I, L, pX pa pb (some 49) pw)) := by
    rw [B15_81_g49, jgo_some (d := d + 1) rfl (expect_cf h0 _)]
    dsimp only [Option.toList_some, Option.toList_none, List.cons_append, List.nil_append]
    rw [B15_87_g49, if_pos rfl, B15_116_g49]
  rw [B15_44_g49]
  by_cases q : l3 < I 27 6
  · rw [if_pos q, jgo_some (d := d + 1) rfl (now_cf h0 _)]
    dsimp only [Option.toList_some, Option.toList_none, List.cons_append, List.nil_append]
    rw [B15_58_g49, if_pos rfl, s81]
  · rw [if_neg q, s81]
theorem tab_loop49 {d e np : Nat} {I J : Nat → Nat → Int32} {L L' : Nat → Nat → Int64} (tk : tkS T K P W U I L J L') (hnt : nt < 8) (hnp : np ≤ 12 * nt) (hg12 : I 49 12 = nI nt) (l1 : Int64) : ∀ (r j now1 c : Nat) (I1 J1 : Nat → Nat → Int32) (L1' : Nat → Nat → Int64) (l3 : Int32) (l4 l6 : Int64), T - now1 < r → tbP 49 T nt np I J L' j now1 I1 J1 L1' → 1 ≤ j → j ≤ 12 → c ≤ now1 →
    (∃ j2 now2 I2 J2 L2' c2, 1 ≤ j2 ∧ j2 ≤ 12 ∧ now1 ≤ now2 ∧ jv (d + 4) 15 44 [some (.ref 27), some (.long l1), none, some (.int (nI c))] [] (shC, I1, L, pX pa pb (some 49) pw) = jv (d + 4) 15 87 [some (.ref 27), some (.long l1), none, some (.int c2)] [.int 1] (shC, I2, L, pX pa pb (some 49) pw) ∧ jv (e + 3) 264 143 [some (.ref 0), some (.int (nI j)), some (.int 1), some (.int l3), some (.long l4), none, some (.long l6), none] [.int (if K now1 = 44 then 1 else 0)] (shR, J1, L1', pR) = some (none, (shR, J2, L2', pR)) ∧ tbP 49 T nt np I J L' j2 now2 I2 J2 L2') ∨
    (∃ I2 J2 L2', jv (d + 4) 15 44 [some (.ref 27), some (.long l1), none, some (.int (nI c))] [] (shC, I1, L, pX pa pb (some 49) pw) = some (none, (shC, I2, L, pX pa pb (some 49) pw)) ∧ jv (e + 3) 264 143 [some (.ref 0), some (.int (nI j)), some (.int 1), some (.int l3), some (.long l4), none, some (.long l6), none] [.int (if K now1 = 44 then 1 else 0)] (shR, J1, L1', pR) = some (none, (shR, J2, L2', pR)) ∧ tbB 49 T I J L L' I2 J2 L2') := by
  have hg : 49 = 38 ∨ 49 = 49 := by decide
  have hT := tk.1
  intro r
  induction r with
  | zero => intro j now1 c I1 J1 L1' l3 l4 l6 hr; exact absurd hr (Nat.not_lt_zero _)
  | succ r ih =>
    intro j now1 c I1 J1 L1' l3 l4 l6 hr h hj1 hj hc
    obtain ⟨h1, p10, p45, p29, pp, pi⟩ := id h
    have tk1 := h1.tk hg tk
    obtain ⟨f, a1, a2, a3, a4, a5⟩ := id h1
    by_cases q : K now1 = 44
    · have lt : now1 < T := tk1.lt a1 q (by decide)
      have h2 : tbP 49 T nt np I J L' j (now1 + 1) (j_up I1 27 7 (nI (now1 + 1))) (j_up J1 0 28 (nI (now1 + 1))) L1' := ⟨h1.adv hg lt, by rw [j_up_cell _ (by decide)]; exact p10, by rw [j_up_own, if_neg (by decide)]; exact p45, by rw [j_up_cell _ (by decide)]; exact p29, fun i hi => by rw [j_up_cell _ (by decide), j_up_cell _ (by decide)]; exact pp i hi, pi⟩
      have cs : jv (d + 4) 15 44 [some (.ref 27), some (.long l1), none, some (.int (nI c))] [] (shC, I1, L, pX pa pb (some 49) pw) = jgo jTT jMM (d + 4) 16 [.ref 27] (shC, j_up I1 27 7 (nI (now1 + 1)), L, pX pa pb (some 49) pw) (fun v S => jv (d + 4) 15 75 [some (.ref 27), some (.long l1), none, some (.int (nI c))] (v.toList ++ []) S) := by
        rw [B15_44_g49, tk1.2.1, if_pos (nI_lt (by omega) (by omega)), show (44 : Int32) = nI 44 from rfl, jgo_some (d := d + 3) rfl (now_c tk1 a1 a2 a3 (k := 44) (by decide)), if_pos q]
        dsimp only [Option.toList_some, Option.toList_none, List.cons_append, List.nil_append]
        rw [B15_58_g49, if_neg (by decide), a3, show nI now1 + 1 = nI (now1 + 1) from nI_add now1 1]
      have rs : jv (e + 3) 264 143 [some (.ref 0), some (.int (nI j)), some (.int 1), some (.int l3), some (.long l4), none, some (.long l6), none] [.int (if K now1 = 44 then 1 else 0)] (shR, J1, L1', pR) = jv (e + 3) 264 4 [some (.ref 0), some (.int (nI j)), some (.int 1), some (.int l3), some (.long l4), none, some (.long l6), none] [] (shR, j_up J1 0 28 (nI (now1 + 1)), L1', pR) := by
        rw [if_pos q, B264_143, if_neg (by decide), B264_158, a5, show nI now1 + 1 = nI (now1 + 1) from nI_add now1 1]
      rw [cs, rs]
      rcases point_sim49 (d := d) (e := e) (pa := pa) (pb := pb) (pw := pw) tk hnt hnp hg12 hj h2 (some (.int l3)) (some (.long l4)) none (some (.long l6)) none with ⟨now2, I2, J2, L2', m3, m4, m6, lt2, j12, ec, er, h3⟩ | ⟨I2, J2, ec, er, hb⟩
      · have cs2 : jgo jTT jMM (d + 4) 16 [.ref 27] (shC, j_up I1 27 7 (nI (now1 + 1)), L, pX pa pb (some 49) pw) (fun v S => jv (d + 4) 15 75 [some (.ref 27), some (.long l1), none, some (.int (nI c))] (v.toList ++ []) S) = jv (d + 4) 15 44 [some (.ref 27), some (.long l1), none, some (.int (nI (c + 1)))] [] (shC, I2, L, pX pa pb (some 49) pw) := by
          rw [jgo_some (d := d + 3) rfl ec]
          dsimp only [Option.toList_some, Option.toList_none, List.cons_append, List.nil_append]
          rw [B15_75_g49, show nI c + 1 = nI (c + 1) from nI_add c 1]
        rw [cs2, er]
        have h2T := h1.2.1
        rcases ih (j + 1) now2 (c + 1) I2 J2 L2' m3 m4 m6 (by omega) h3 (by omega) (by omega) (by omega) with ⟨j2, now3, I3, J3, L3', c3, z1, z2, z3, z4, z5, z6⟩ | z
        · exact Or.inl ⟨j2, now3, I3, J3, L3', c3, z1, z2, by omega, z4, z5, z6⟩
        · exact Or.inr z
      · have cs2 : jgo jTT jMM (d + 4) 16 [.ref 27] (shC, j_up I1 27 7 (nI (now1 + 1)), L, pX pa pb (some 49) pw) (fun v S => jv (d + 4) 15 75 [some (.ref 27), some (.long l1), none, some (.int (nI c))] (v.toList ++ []) S) = some (none, (shC, I2, L, pX pa pb (some 49) pw)) := by
          rw [jgo_some (d := d + 3) rfl ec]
          dsimp only [Option.toList_some, Option.toList_none, List.cons_append, List.nil_append]
          rw [B15_75_g49, tb44_cf49 (d := d + 2) hb.2.1.f.1]
        rw [cs2, er]
        exact Or.inr ⟨I2, J2, L1', rfl, rfl, hb⟩
    · have cs : jv (d + 4) 15 44 [some (.ref 27), some (.long l1), none, some (.int (nI c))] [] (shC, I1, L, pX pa pb (some 49) pw) = jv (d + 4) 15 81 [some (.ref 27), some (.long l1), none, some (.int (nI c))] [] (shC, I1, L, pX pa pb (some 49) pw) := by
        rw [B15_44_g49]
        by_cases q2 : nI c < I1 27 6
        · rw [if_pos q2, show (44 : Int32) = nI 44 from rfl, jgo_some (d := d + 3) rfl (now_c tk1 a1 a2 a3 (k := 44) (by decide)), if_neg q]
          dsimp only [Option.toList_some, Option.toList_none, List.cons_append, List.nil_append]
          rw [B15_58_g49, if_pos rfl]
        · rw [if_neg q2]
      have rs : jv (e + 3) 264 143 [some (.ref 0), some (.int (nI j)), some (.int 1), some (.int l3), some (.long l4), none, some (.long l6), none] [.int (if K now1 = 44 then 1 else 0)] (shR, J1, L1', pR) = jv (e + 3) 264 165 [some (.ref 0), some (.int (nI j)), some (.int 0), some (.int l3), some (.long l4), none, some (.long l6), none] [] (shR, J1, L1', pR) := by
        rw [if_neg q, B264_143, if_pos rfl, B264_158, Int32_add0, j_up_id, B264_4, if_pos rfl]
      rw [cs, rs, B15_81_g49, B264_165, show (59 : Int32) = nI 59 from rfl]
      rcases h1.want (d := d + 2) (e := e + 1) (pa := pa) (pb := pb) (pu := some 49) (pw := pw) hg tk (k := 59) (by decide) (by decide) with ⟨lt3, ec3, er3, h3, q3⟩ | ⟨I3, J3, ec3, er3, hb, q3⟩
      · refine Or.inl ⟨j, now1 + 1, _, _, L1', nI c, hj1, hj, by omega, ?_, ?_, h3, by rw [j_up_cell _ (by decide)]; exact p10, by rw [j_up_own, if_neg (by decide)]; exact p45, by rw [j_up_cell _ (by decide)]; exact p29, fun i hi => by rw [j_up_cell _ (by decide), j_up_cell _ (by decide)]; exact pp i hi, pi⟩
        · rw [jgo_some (d := d + 3) rfl ec3]
          rfl
        · rw [show nI 59 = nI (kR 59) from rfl, jgo_some (d := e + 2) rfl er3]
          dsimp only [Option.toList_some, Option.toList_none, List.cons_append, List.nil_append]
          rw [B264_171]
      · refine Or.inr ⟨I3, J3, L1', ?_, ?_, hb⟩
        · rw [jgo_some (d := d + 3) rfl ec3]
          dsimp only [Option.toList_some, Option.toList_none, List.cons_append, List.nil_append]
          rw [B15_87_g49, if_pos rfl, B15_116_g49]
        · rw [show nI 59 = nI (kR 59) from rfl, jgo_some (d := e + 2) rfl er3]
          dsimp only [Option.toList_some, Option.toList_none, List.cons_append, List.nil_append]
          rw [B264_171]
/-- a table is kept -/
theorem pS.table49 {wl : Nat → Nat} {np j : Nat} {I J : Nat → Nat → Int32} {L L' : Nat → Nat → Int64} {now nc nr : Nat} (hS : pS 49 T K P W U Q nm kd nb nl nt nu wl np now nc nr I L J L') (hl : nt < 8) (hj : 1 ≤ j ∧ j ≤ 12) {now5 : Nat} {I5 J5 : Nat → Nat → Int32} {L5' : Nat → Nat → Int64} (hn : now ≤ now5) (h : tbP 49 T nt np I J L' j now5 I5 J5 L5') {w : List Nat} (hw : okW w) (hnew : ¬ hadW Q nm 0 cw0 w) : sFr 49 I (j_up (j_up (j_up (j_up I5 32 Q 3) 33 Q (nI nt)) 27 14 (nI (Q + 1))) 49 12 (nI (nt + 1))) L (j_up L 31 Q (lgN (nC w))) J (j_up (j_up J5 30 nt (nI (np + j))) 0 46 (nI (nt + 1))) L' (j_up L5' 28 nt (lgN (nR w))) ∧ pS 49 T K P W U (Q + 1) (upW nm Q w) (upN kd Q 3) (upN nb Q nt) nl (nt + 1) nu wl (np + j) now5 nc nr (j_up (j_up (j_up (j_up I5 32 Q 3) 33 Q (nI nt)) 27 14 (nI (Q + 1))) 49 12 (nI (nt + 1))) (j_up L 31 Q (lgN (nC w))) (j_up (j_up J5 30 nt (nI (np + j))) 0 46 (nI (nt + 1))) (j_up L5' 28 nt (lgN (nR w))) := by
  have hg : 49 = 38 ∨ 49 = 49 := by decide
  obtain ⟨ok, s1, s2, s3, s4, s5, s6, s7, s8, s9, s10, s11⟩ := hS
  obtain ⟨h1, p10, p45, p29, pp, pi⟩ := h
  obtain ⟨⟨f1, f2, f3, f4, f5, f6, f7, f8, f9, f10⟩, b1, b2, b3, b4, b5⟩ := id h1
  have hT := ok.1.1
  obtain ⟨_, kw, hN, hC, a5, a6, a7, a8, a9, a10, a11, a12, a13⟩ := id ok
  -- names as they were
  have tk5 := h1.tk hg ok.1
  have hN5 : nmS Q nm kd nb nl nt nu I5 L J5 L5' := hN.frame (f4 14 (by decide) (by decide) (by decide)) rfl (f1 32 (by decide) (by omega)) (f1 33 (by decide) (by omega)) (f8 39 (by decide) (by decide) (by decide) (by decide)) (f8 46 (by decide) (by decide) (by decide) (by decide)) (f8 49 (by decide) (by decide) (by decide) (by decide)) (f9 26 (by decide) (by decide)) (f9 28 (by decide) (by decide)) (f9 33 (by decide) (by decide))
  have ok5 : pOk 49 T K P W U Q nm kd nb nl nt nu 0 cw0 rho0 now5 nc nr I5 L J5 L5' := ⟨tk5, kw, hN5, hC.frame ((f4 16 (by decide) (by decide) (by decide)).trans hC.2.1) ((f8 52 (by decide) (by decide) (by decide) (by decide)).trans hC.2.2.1) (fun i hi => absurd hi (Nat.not_lt_zero _)) (fun i hi => absurd hi (Nat.not_lt_zero _)) (fun i hi => absurd hi (Nat.not_lt_zero _)) (fun x hx => by rw [f8 36 (by decide) (by decide) (by decide) (by decide)]; exact hx), b1, by omega, by omega, b2, b4, b3, b5, (congrFun f5 10).trans a12, (f8 36 (by decide) (by decide) (by decide) (by decide)).trans a13⟩
  have f : tF 49 I5 (j_up (j_up (j_up (j_up I5 32 Q 3) 33 Q (nI nt)) 27 14 (nI (Q + 1))) 49 12 (nI (nt + 1))) L (j_up L 31 Q (lgN (nC w))) J5 (j_up (j_up J5 30 nt (nI (np + j))) 0 46 (nI (nt + 1))) L5' (j_up L5' 28 nt (lgN (nR w))) :=
    ⟨fun c h1 h2 h3 h4 => by rw [j_up_cell _ (by omega), j_up_cell _ (by omega), j_up_cell _ (by omega), j_up_cell _ (by omega)], fun q h1 => by rw [j_up_cell _ (by decide), j_up_own, if_neg h1, j_up_cell _ (by decide), j_up_cell _ (by decide)], fun q h1 => by rw [j_up_own, if_neg (by omega), j_up_cell _ (by decide), j_up_cell _ (by decide), j_up_cell _ (by decide)], fun c h1 => by rw [j_up_cell _ h1], fun c h1 h2 h3 h4 h5 => by rw [j_up_cell _ h1, j_up_cell _ h4], fun q h1 h2 h3 h4 => by rw [j_up_own, if_neg h3, j_up_cell _ (by decide)], fun c h1 h2 h3 h4 h5 => by rw [j_up_cell _ h2]⟩
  have n1 := nmS.tell (I1 := j_up (j_up (j_up (j_up I5 32 Q 3) 33 Q (nI nt)) 27 14 (nI (Q + 1))) 49 12 (nI (nt + 1))) (L1 := j_up L 31 Q (lgN (nC w))) (J1 := j_up (j_up J5 30 nt (nI (np + j))) 0 46 (nI (nt + 1))) (L1' := j_up L5' 28 nt (lgN (nR w))) hN5 (by have := hN.2.2.1; have := hN.2.2.2.1; have := hN.2.2.2.2.1; omega) hw (fun q hq z => hnew (Or.inr (Or.inr (Or.inr (Or.inl ⟨q, hq, z⟩))))) (k := 3) (b := nt) (nl2 := nl) (nt2 := nt + 1) (nu2 := nu) ⟨Nat.le_refl _, hN.2.2.1⟩ ⟨by omega, by omega⟩ ⟨Nat.le_refl _, hN.2.2.2.2.1⟩ (by rw [j_up_cell _ (by decide), j_up_own, if_pos rfl]) (by rw [j_up_own, if_neg (by decide), j_up_cell _ (by decide)]; exact hN5.2.2.2.2.2.1) (by rw [j_up_own, if_pos rfl]) (by rw [j_up_own, if_neg (by decide), j_up_cell _ (by decide)]; exact hN5.2.2.2.2.2.2.2.1) (fun q hq => by rw [j_up_own, if_neg (by omega)]) (by rw [j_up_own, if_pos rfl]) (fun q hq => by rw [j_up_cell _ (by decide), j_up_cell _ (by decide), j_up_cell _ (by decide), j_up_own, if_neg (by omega)]) (by rw [j_up_cell _ (by decide), j_up_cell _ (by decide), j_up_cell _ (by decide), j_up_own, if_pos rfl]; rfl) (fun q hq => by rw [j_up_cell _ (by decide), j_up_cell _ (by decide), j_up_own, if_neg (by omega), j_up_cell _ (by decide)]) (by rw [j_up_cell _ (by decide), j_up_cell _ (by decide), j_up_own, if_pos rfl]) (fun i hi => by rw [j_up_cell _ (by decide)]) (fun i hi => by rw [j_up_own, if_neg (by omega)]) (fun i hi => by rw [j_up_cell _ (by decide)]) (Or.inr (Or.inl ⟨rfl, rfl, rfl, rfl, rfl, by rw [j_up_own, if_pos rfl]⟩))
  have gI : ∀ c, 49 < c → (j_up (j_up (j_up (j_up I5 32 Q 3) 33 Q (nI nt)) 27 14 (nI (Q + 1))) 49 12 (nI (nt + 1))) c = I5 c := fun c hc => by rw [j_up_cell _ (by omega), j_up_cell _ (by omega), j_up_cell _ (by omega), j_up_cell _ (by omega)]
  have g1 : ∀ c, c < 5 → ∀ i, i < nc → (j_up (j_up (j_up (j_up I5 32 Q 3) 33 Q (nI nt)) 27 14 (nI (Q + 1))) 49 12 (nI (nt + 1))) (49 + 1 + c) i = I (49 + 1 + c) i := fun c hc i hi => by rw [gI (49 + 1 + c) (by omega), f1 (49 + 1 + c) (by omega) (by omega)]
  have gJ : ∀ c, c ≠ 0 → c ≠ 30 → (j_up (j_up J5 30 nt (nI (np + j))) 0 46 (nI (nt + 1))) c = J5 c := fun c h1 h2 => by rw [j_up_cell _ h1, j_up_cell _ h2]
  have g2 : ∀ c, c < 4 → ∀ i, i < nr → (j_up (j_up J5 30 nt (nI (np + j))) 0 46 (nI (nt + 1))) (21 + c) i = J (21 + c) i := fun c hc i hi => by rw [gJ (21 + c) (by omega) (by omega), f6 (21 + c) (by omega) (by omega) (by omega)]
  have g3 : ∀ i, i < nr → j_up L5' 28 nt (lgN (nR w)) 25 i = L' 25 i := fun i hi => by rw [j_up_cell _ (by decide), f9 25 (by decide) (by decide)]
  refine ⟨(tbF.fr hg h1.1).trans (sFr.tell hg f), pOk.tell hg ok5 f n1, ?_, ?_, ?_, by omega, ?_, by omega, ?_, ?_, ?_, s10, Nat.le_trans s11 hn⟩
  · rw [j_up_own, if_neg (by decide), j_up_cell _ (by decide), j_up_cell _ (by decide), j_up_cell _ (by decide), f5]; exact s1
  · rw [j_up_own, if_pos rfl]
  · rw [j_up_own, if_neg (by decide), j_up_cell _ (by decide), j_up_cell _ (by decide), j_up_cell _ (by decide), f5]; exact s3
  · rw [j_up_own, if_neg (by decide), j_up_cell _ (by decide)]; exact p45
  · exact prL.mv s7 (by omega) (Nat.le_refl _) (Nat.le_refl _) (fun i hi => by rw [gI (49 + 6) (by decide), f1 (49 + 6) (by decide) (by omega)]) (fun i hi => by rw [gJ 27 (by decide) (by decide), f6 27 (by decide) (by decide) (by decide)]) g1 g2 g3 (fun _ _ => rfl)
  · exact prU.mv s8 (Nat.le_refl _) (by omega) (Nat.le_refl _) (Nat.le_refl _) (fun i hi => by rw [gI (49 + 7) (by decide), f1 (49 + 7) (by decide) (by omega)]) (fun i hi => by rw [gJ 34 (by decide) (by decide), f6 34 (by decide) (by decide) (by decide)]) g1 g2 g3 (fun _ _ => rfl)
  · intro t ht
    rcases Nat.lt_or_eq_of_le (show t ≤ nt by omega) with z | z
    · exact prT.mv s9 (by omega) (fun i hi => by rw [gJ 29 (by decide) (by decide)]; exact (f7 i hi).1) (fun i hi => by rw [j_up_cell _ (by decide), j_up_own, if_neg (by omega)]; exact (f7 i hi).2) (fun i hi => by rw [gI (49 + 10) (by decide)]; exact f3 i hi) (fun i hi => by rw [gI (49 + 8) (by decide)]; exact (f2 i hi).1) (fun i hi => by rw [gI (49 + 9) (by decide)]; exact (f2 i hi).2) (fun i hi => by rw [j_up_cell _ (by decide)]; exact (f10 i hi).1) (fun i hi => by rw [j_up_cell _ (by decide)]; exact (f10 i hi).2) t z
    · subst z
      refine ⟨np, j, hj.1, hj.2, Nat.le_refl _, ?_, ?_, ?_, fun i hi => ?_, fun i hi => ?_⟩
      · rw [gJ 29 (by decide) (by decide)]; exact p29
      · rw [j_up_cell _ (by decide), j_up_own, if_pos rfl]
      · rw [gI (49 + 10) (by decide)]; exact p10
      · rw [gI (49 + 8) (by decide), gI (49 + 9) (by decide), j_up_cell _ (by decide), j_up_cell _ (by decide)]; exact pp i hi
      · rw [j_up_cell _ (by decide)]; exact pi i hi
theorem table_sim49 {d e : Nat} (hd : 140 ≤ d) (he : 140 ≤ e) {wl : Nat → Nat} {np : Nat} {I J : Nat → Nat → Int32} {L L' : Nat → Nat → Int64} {now nc nr : Nat} (hS : pS 49 T K P W U Q nm kd nb nl nt nu wl np now nc nr I L J L') (hK : K now = 97) : jW2 (jv d 15 0 [some (.ref 27), none, none, none] [] (shC, I, L, pX pa pb (some 49) pw)) (jv e 262 43 [some (.ref 0), none, none, none, none, none] [.int 2] (shR, J, L', pR)) (sQ 49 T K P W U now I L J L' (pX pa pb (some 49) pw)) := by
  have hg : 49 = 38 ∨ 49 = 49 := by decide
  obtain ⟨ok, s1, s2, s3, s4, s5, s6, s7, s8, s9, s10, s11⟩ := id hS
  obtain ⟨tk, kw, hN, hC, a5, a6, a7, a8, a9, a10, a11, a12, a13⟩ := id ok
  have hT := tk.1
  have tq := tk.2.2.2.1 now a5
  obtain ⟨d, rfl⟩ : ∃ d', d = d' + 5 := ⟨d - 5, by omega⟩
  obtain ⟨e, rfl⟩ : ∃ e', e = e' + 5 := ⟨e - 5, by omega⟩
  rw [B15_0_g49, s2, B262_43, a11, if_pos (j_in_nI (by omega) (by decide)), nI_clamp (by omega), tq.2.2.2.1, if_neg (by decide), if_neg (by decide), B262_80, if_pos rfl, hN.2.2.2.2.2.2.1]
  by_cases hl : nt = 8
  · rw [if_pos (by rw [hl]; rfl), B262_108, show (5 : Int32) = nI 5 from rfl, jgo_some (d := e + 4) rfl (fails_rk a9 5 (P now))]
    have c12 : jv (d + 4) 12 0 [some (.ref 27), some (.int (nI nt)), some (.int 8), none, none] [] (shC, I, L, pX pa pb (some 49) pw) = some (some (.long 0), (shC, flC I 5 (P now), L, pX pa pb (some 49) pw)) := by
      rw [B12_0, if_neg (by rw [hl]; decide), a10, show (5 : Int32) = nI 5 from rfl, jgo_some (d := d + 3) rfl (fail_c tk a5 a8 5)]
      dsimp only [Option.toList_some, Option.toList_none, List.cons_append, List.nil_append]
      rw [B12_14]
    have hf := eSt.fl hg ok.st (f := 5) (p := P now) (by decide) (by omega)
    rw [jgo_some (d := d + 4) rfl c12]
    dsimp only [Option.toList_some, Option.toList_none, List.cons_append, List.nil_append]
    rw [B15_13_g49, if_neg hf.f.1, B262_114]
    exact jW2_some (sQ.bad (sFr.of hg hf.1 hf.2.1) hf.b)
  have hl2 : nt < 8 := by have := hN.2.2.2.1; omega
  rw [if_neg (show ¬ nI nt = (8 : Int32) from fun z => hl ((nI_eq (b := 8) (by omega) (by decide)).mp z)), B262_94, if_neg (by decide)]
  rcases head_sim (d := d + 1) (e := e + 3) (pa := pa) (pb := pb) (pu := some 49) (pw := pw) hg ok hK hl2 (by decide) 2 (nI (P now)) with ⟨w, I3, J3, hw, hnew, ec, er, st3, h293⟩ | ⟨x, I3, J3, m1, c1, m2, r2, ec, er, hf⟩
  case inr =>
    rw [show (8 : Int32) = nI 8 from rfl, jgo_some (d := d + 4) rfl ec, er]
    dsimp only [Option.toList_some, Option.toList_none, List.cons_append, List.nil_append]
    rw [B15_13_g49, if_neg hf.f.1]
    exact jW2_some (sQ.bad (sFr.of hg hf.1 hf.2.1) hf.b)
  rw [show (8 : Int32) = nI 8 from rfl, jgo_some (d := d + 4) rfl ec, er]
  dsimp only [Option.toList_some, Option.toList_none, List.cons_append, List.nil_append]
  have hS3 := pS.st hg hS st3 h293
  have fr3 := sFr.of hg st3.1 st3.2.1
  obtain ⟨ok3, u1, u2, u3, u4, u5, u6, _⟩ := id hS3
  obtain ⟨tk3, kw3, hN3, hC3, c5, c6, c7, c8, c9, c10, c11, c12, c13⟩ := id ok3
  have j46 := hN3.2.2.2.2.2.2.1
  rw [B15_13_g49, if_pos c8, u2, if_pos (j_in_nI hl2 (by decide)), nI_clamp (by omega), B262_137, if_pos h293, if_neg (by decide), if_pos rfl, j46, if_pos (j_in_nI (by omega) (by decide)), nI_clamp (by omega), u5]
  have t0 : tbP 49 T nt np I3 J3 L' 0 (now + 1 + 1 + 1) (j_up I3 59 nt 0) (j_up J3 29 nt (nI np)) L' := by
    refine ⟨⟨⟨fun c a b => j_up_cell _ (by omega) _ _, fun i a => ⟨by rw [j_up_cell _ (by decide)], by rw [j_up_cell _ (by decide)]⟩, fun i a => ?_, fun q a b c => by rw [j_up_cell _ (by decide)], j_up_cell _ (by decide) _ _, fun c a b c' => j_up_cell _ b _ _, fun i a => ⟨by rw [j_up_own, if_neg (by omega)], by rw [j_up_cell _ (by decide)]⟩, fun q a b c c' => by rw [j_up_cell _ (by decide)], fun _ _ _ => rfl, fun _ _ => ⟨rfl, rfl⟩⟩, c5, by rw [j_up_cell _ (by decide)]; exact c8, by rw [j_up_cell _ (by decide)]; exact c10, by rw [j_up_cell _ (by decide)]; exact h293, by rw [j_up_cell _ (by decide)]; exact c11⟩, ?_, by rw [j_up_cell _ (by decide)]; exact u5, by rw [j_up_own, if_pos rfl], fun i hi => absurd hi (Nat.not_lt_zero _), fun i hi => absurd hi (Nat.not_lt_zero _)⟩
    · show j_up _ _ _ _ 59 i = _
      rw [j_up_own, if_neg (by omega)]
    · show j_up _ _ _ _ 59 nt = _
      rw [j_up_own, if_pos rfl]; rfl
  -- what both do with the points
  have pts : (∃ j now2 I2 J2 L2' c2, 1 ≤ j ∧ j ≤ 12 ∧ now + 1 + 1 + 1 ≤ now2 ∧ jgo jTT jMM (d + 5) 16 [.ref 27] (shC, j_up I3 59 nt 0, L, pX pa pb (some 49) pw) (fun v S => jv (d + 5) 15 42 [some (.ref 27), some (.long (lgN (nC w))), none, none] (v.toList ++ []) S) = jv (d + 5) 15 87 [some (.ref 27), some (.long (lgN (nC w))), none, some (.int c2)] [.int 1] (shC, I2, L, pX pa pb (some 49) pw) ∧ jv (e + 4) 264 0 [some (.ref 0), none, none, none, none, none, none, none] [] (shR, j_up J3 29 nt (nI np), L', pR) = some (none, (shR, J2, L2', pR)) ∧ tbP 49 T nt np I3 J3 L' j now2 I2 J2 L2') ∨
      (∃ I2 J2 L2', jgo jTT jMM (d + 5) 16 [.ref 27] (shC, j_up I3 59 nt 0, L, pX pa pb (some 49) pw) (fun v S => jv (d + 5) 15 42 [some (.ref 27), some (.long (lgN (nC w))), none, none] (v.toList ++ []) S) = some (none, (shC, I2, L, pX pa pb (some 49) pw)) ∧ jv (e + 4) 264 0 [some (.ref 0), none, none, none, none, none, none, none] [] (shR, j_up J3 29 nt (nI np), L', pR) = some (none, (shR, J2, L2', pR)) ∧ tbB 49 T I3 J3 L L' I2 J2 L2') := by
    rcases point_sim49 (d := d + 1) (e := e + 1) (j := 0) (pa := pa) (pb := pb) (pw := pw) tk3 hl2 u6 u2 (by decide) t0 none none none none none with ⟨now2, I2, J2, L2', m3, m4, m6, lt2, j12, ec, er, h3⟩ | ⟨I2, J2, ec, er, hb⟩
    · have cs2 : jgo jTT jMM (d + 5) 16 [.ref 27] (shC, j_up I3 59 nt 0, L, pX pa pb (some 49) pw) (fun v S => jv (d + 5) 15 42 [some (.ref 27), some (.long (lgN (nC w))), none, none] (v.toList ++ []) S) = jv (d + 5) 15 44 [some (.ref 27), some (.long (lgN (nC w))), none, some (.int (nI 0))] [] (shC, I2, L, pX pa pb (some 49) pw) := by
        rw [jgo_some (d := d + 4) rfl ec]
        dsimp only [Option.toList_some, Option.toList_none, List.cons_append, List.nil_append]
        rw [B15_42_g49]
        rfl
      have rs2 : jv (e + 4) 264 0 [some (.ref 0), none, none, none, none, none, none, none] [] (shR, j_up J3 29 nt (nI np), L', pR) = jv (e + 4) 264 143 [some (.ref 0), some (.int (nI 1)), some (.int 1), some (.int m3), some (.long m4), none, some (.long m6), none] [.int (if K now2 = 44 then 1 else 0)] (shR, J2, L2', pR) := by
        rw [B264_0]; exact er
      rw [cs2, rs2]
      rcases tab_loop49 (d := d + 1) (e := e + 1) (pa := pa) (pb := pb) (pw := pw) tk3 hl2 u6 u2 (lgN (nC w)) (T - now2 + 1) 1 now2 0 I2 J2 L2' m3 m4 m6 (by omega) h3 (by decide) (by decide) (by omega) with ⟨j2, now3, I4, J4, L4', c3, z1, z2, z3, z4, z5, z6⟩ | ⟨I4, J4, L4', z1, z2, z3⟩
      · exact Or.inl ⟨j2, now3, I4, J4, L4', c3, z1, z2, by omega, z4, z5, z6⟩
      · exact Or.inr ⟨I4, J4, L4', z1, z2, z3⟩
    · refine Or.inr ⟨I2, J2, L', ?_, ?_, hb⟩
      · rw [jgo_some (d := d + 4) rfl ec]
        dsimp only [Option.toList_some, Option.toList_none, List.cons_append, List.nil_append]
        rw [B15_42_g49, tb44_cf49 (d := d + 3) hb.2.1.f.1]
      · rw [B264_0]; exact er
  rcases pts with ⟨j, now2, I5, J5, L5', c2, hj1, hj2, ln, e1, e2, h⟩ | ⟨I5, J5, L5', e1, e2, hb⟩
  · obtain ⟨h1, p10, p45, p29, pp, pi⟩ := id h
    obtain ⟨⟨f1, f2, f3, f4, f5, f6, f7, f8, f9, f10⟩, b1, b2, b3, b4, b5⟩ := id h1
    have i12 : I5 49 12 = nI nt := (congrFun f5 12).trans u2
    have i14 : I5 27 14 = nI Q := (f4 14 (by decide) (by decide) (by decide)).trans hN3.2.1
    have k46 : J5 0 46 = nI nt := (f8 46 (by decide) (by decide) (by decide) (by decide)).trans j46
    have l46 : j_up J5 30 nt (nI (np + j)) 0 46 = nI nt := by rw [j_up_cell _ (by decide)]; exact k46
    have hQ : Q < 72 := by have := hN.2.2.1; have := hN.2.2.2.1; have := hN.2.2.2.2.1; omega
    rw [e1, jgo_some (d := e + 4) rfl e2]
    dsimp only [Option.toList_some, Option.toList_none, List.cons_append, List.nil_append]
    rw [B15_87_g49, if_neg (by decide), i12, jgo_some (d := d + 4) rfl (tell_c (d := d + 4) (q := Q) i14 hQ _ _ _), B262_232, k46, if_pos (j_in_nI (by omega) (by decide)), nI_clamp (by omega), p45, l46, if_pos (j_in_nI (by omega) (by decide)), nI_clamp (by omega), j_up_cell _ (show 0 ≠ 30 by decide), if_pos b4, B262_272, B262_335]
    dsimp only [Option.toList_some, Option.toList_none, List.cons_append, List.nil_append]
    rw [B15_103_g49, B15_116_g49, j_up_cell _ (show 49 ≠ 27 by decide), j_up_cell _ (show 49 ≠ 33 by decide), j_up_cell _ (show 49 ≠ 32 by decide), i12, show nI nt + 1 = nI (nt + 1) from nI_add nt 1]
    have r := pS.table49 hS3 hl2 ⟨hj1, hj2⟩ ln h hw hnew
    exact jW2_some (sQ.ok (fr3.trans r.1) (by omega) r.2)
  · obtain ⟨m, m1, m2, m3⟩ := hb.2.2
    have k46 : J5 0 46 = nI nt := m3.trans j46
    have l46 : j_up J5 30 nt (J5 0 45) 0 46 = nI nt := by rw [j_up_cell _ (by decide)]; exact k46
    rw [e1, jgo_some (d := e + 4) rfl e2]
    dsimp only [Option.toList_some, Option.toList_none, List.cons_append, List.nil_append]
    rw [B262_232, k46, if_pos (j_in_nI (by omega) (by decide)), nI_clamp (by omega), l46, if_pos (j_in_nI (by omega) (by decide)), nI_clamp (by omega), j_up_cell _ (show 0 ≠ 30 by decide), if_neg hb.2.1.f.2, B262_272, B262_335]
    refine jW2_some (sQ.bad ((fr3.trans hb.1).trans ⟨fun _ _ _ => rfl, rfl, rfl, fun _ _ _ _ _ _ => rfl, fun _ _ => rfl, fun _ _ _ => rfl, fun c h1 h2 => by rw [j_up_cell _ h1, j_up_cell _ (by omega)], fun q h => by rw [j_up_own, if_neg (by omega), j_up_cell _ (by decide)], fun c h => by rw [j_up_cell _ (by omega)]⟩) ?_)
    obtain ⟨f, p, f1, f2, f3, f4, f5, f6⟩ := hb.2.1
    exact ⟨f, p, f1, f2, f3, f4, by rw [j_up_own, if_neg (by decide), j_up_cell _ (by decide)]; exact f5, by rw [j_up_own, if_neg (by decide), j_up_cell _ (by decide)]; exact f6⟩
end PARX
