/-! RULES: rules -/
section PARU
variable {T : Nat} {K P : Nat → Nat} {W : Nat → List Nat} {U : Nat → Nat} {Q : Nat} {nm : Nat → List Nat} {kd nb : Nat → Nat} {nl nt nu s : Nat} {cw : Nat → List Nat} {rho : Nat → Nat} {lam : Nat} {pa pb pw : Option Nat}
/-- a rule is kept -/
theorem pS.rule38 {wl : Nat → Nat} {np : Nat} {I J : Nat → Nat → Int32} {L L' : Nat → Nat → Int64} {now nc nr : Nat} (hS : pS 38 T K P W U Q nm kd nb nl nt nu wl np now nc nr I L J L') (hl : nu < 24) {now5 nc5 nr5 n k : Nat} {I5 J5 : Nat → Nat → Int32} {L5 L5' : Nat → Nat → Int64} (st : eSt 38 T 0 now nc nr I L J L' now5 nc5 nr5 I5 L5 J5 L5') (h29 : J5 0 29 = 0) {w : List Nat} (hw : okW w) (hnew : ¬ hadW Q nm 0 cw0 w) {wt : Nat} (hwt : wt ≤ 1200) (p5 : pst 38 I5 J5 L5' nl nt (wl nl) 75 false wt 0 rho0 0 nc5 0 nr5 n k) : sFr 38 I (j_up (j_up (j_up (j_up (j_up I5 (38 + 7) nu (nI n)) 32 Q 14) 33 Q (nI nu)) 27 14 (nI (Q + 1))) 38 13 (nI (nu + 1))) L (j_up L5 31 Q (lgN (nC w))) J (j_up (j_up J5 34 nu (nI k)) 0 49 (nI (nu + 1))) L' (j_up L5' 33 nu (lgN (nR w))) ∧ pS 38 T K P W U (Q + 1) (upW nm Q w) (upN kd Q 14) (upN nb Q nu) nl nt (nu + 1) wl np now5 nc5 nr5 (j_up (j_up (j_up (j_up (j_up I5 (38 + 7) nu (nI n)) 32 Q 14) 33 Q (nI nu)) 27 14 (nI (Q + 1))) 38 13 (nI (nu + 1))) (j_up L5 31 Q (lgN (nC w))) (j_up (j_up J5 34 nu (nI k)) 0 49 (nI (nu + 1))) (j_up L5' 33 nu (lgN (nR w))) := by
  have hg : 38 = 38 ∨ 38 = 49 := by decide
  obtain ⟨ok, s1, s2, s3, s4, s5, s6, s7, s8, s9, s10, s11⟩ := hS
  have ok5 := eSt.ok hg ok st h29
  obtain ⟨_, _, hN, hC, _⟩ := id ok5
  have f : tF 38 I5 (j_up (j_up (j_up (j_up (j_up I5 (38 + 7) nu (nI n)) 32 Q 14) 33 Q (nI nu)) 27 14 (nI (Q + 1))) 38 13 (nI (nu + 1))) L5 (j_up L5 31 Q (lgN (nC w))) J5 (j_up (j_up J5 34 nu (nI k)) 0 49 (nI (nu + 1))) L5' (j_up L5' 33 nu (lgN (nR w))) :=
    ⟨fun c h1 h2 h3 h4 => by rw [j_up_cell _ (by omega), j_up_cell _ (by omega), j_up_cell _ (by omega), j_up_cell _ (by omega), j_up_cell _ (by omega)], fun q h1 => by rw [j_up_cell _ (by decide), j_up_own, if_neg h1, j_up_cell _ (by decide), j_up_cell _ (by decide), j_up_cell _ (by decide)], fun q h1 => by rw [j_up_own, if_neg (by omega), j_up_cell _ (by decide), j_up_cell _ (by decide), j_up_cell _ (by decide), j_up_cell _ (by decide)], fun c h1 => by rw [j_up_cell _ h1], fun c h1 h2 h3 h4 h5 => by rw [j_up_cell _ h1, j_up_cell _ h5], fun q h1 h2 h3 h4 => by rw [j_up_own, if_neg h4, j_up_cell _ (by decide)], fun c h1 h2 h3 h4 h5 => by rw [j_up_cell _ h5]⟩
  have n1 := nmS.tell (I1 := j_up (j_up (j_up (j_up (j_up I5 (38 + 7) nu (nI n)) 32 Q 14) 33 Q (nI nu)) 27 14 (nI (Q + 1))) 38 13 (nI (nu + 1))) (L1 := j_up L5 31 Q (lgN (nC w))) (J1 := j_up (j_up J5 34 nu (nI k)) 0 49 (nI (nu + 1))) (L1' := j_up L5' 33 nu (lgN (nR w))) hN (by have := hN.2.2.1; have := hN.2.2.2.1; have := hN.2.2.2.2.1; omega) hw (fun q hq z => hnew (Or.inr (Or.inr (Or.inr (Or.inl ⟨q, hq, z⟩))))) (k := 14) (b := nu) (nl2 := nl) (nt2 := nt) (nu2 := nu + 1) ⟨Nat.le_refl _, hN.2.2.1⟩ ⟨Nat.le_refl _, hN.2.2.2.1⟩ ⟨by omega, by omega⟩ (by rw [j_up_cell _ (by decide), j_up_own, if_pos rfl]) (by rw [j_up_own, if_neg (by decide), j_up_cell _ (by decide)]; exact hN.2.2.2.2.2.1) (by rw [j_up_own, if_neg (by decide), j_up_cell _ (by decide)]; exact hN.2.2.2.2.2.2.1) (by rw [j_up_own, if_pos rfl]) (fun q hq => by rw [j_up_own, if_neg (by omega)]) (by rw [j_up_own, if_pos rfl]) (fun q hq => by rw [j_up_cell _ (by decide), j_up_cell _ (by decide), j_up_cell _ (by decide), j_up_own, if_neg (by omega), j_up_cell _ (by decide)]) (by rw [j_up_cell _ (by decide), j_up_cell _ (by decide), j_up_cell _ (by decide), j_up_own, if_pos rfl]; rfl) (fun q hq => by rw [j_up_cell _ (by decide), j_up_cell _ (by decide), j_up_own, if_neg (by omega), j_up_cell _ (by decide), j_up_cell _ (by decide)]) (by rw [j_up_cell _ (by decide), j_up_cell _ (by decide), j_up_own, if_pos rfl]) (fun i hi => by rw [j_up_cell _ (by decide)]) (fun i hi => by rw [j_up_cell _ (by decide)]) (fun i hi => by rw [j_up_own, if_neg (by omega)]) (Or.inr (Or.inr ⟨rfl, rfl, rfl, rfl, rfl, by rw [j_up_own, if_pos rfl]⟩))
  have g1 : ∀ c, c < 5 → ∀ i, i < nc → (j_up (j_up (j_up (j_up (j_up I5 (38 + 7) nu (nI n)) 32 Q 14) 33 Q (nI nu)) 27 14 (nI (Q + 1))) 38 13 (nI (nu + 1))) (38 + 1 + c) i = I (38 + 1 + c) i := fun c hc i hi => by rw [f.1 (38 + 1 + c) (by omega) (by omega) (by omega) (by omega)]; exact st.1.2.2.1 c hc i hi
  have g2 : ∀ c, c < 4 → ∀ i, i < nr → (j_up (j_up J5 34 nu (nI k)) 0 49 (nI (nu + 1))) (21 + c) i = J (21 + c) i := fun c hc i hi => by rw [f.2.2.2.2.1 (21 + c) (by omega) (by omega) (by omega) (by omega) (by omega)]; exact st.2.1.2.1 c hc i hi
  have g3 : ∀ i, i < nr → j_up L5' 33 nu (lgN (nR w)) 25 i = L' 25 i := fun i hi => by rw [j_up_cell _ (by decide)]; exact st.2.1.2.2.2.2.2.1 i hi
  have eI : ∀ c, c = 38 + 6 ∨ c = 38 + 8 ∨ c = 38 + 9 ∨ c = 38 + 10 → (j_up (j_up (j_up (j_up (j_up I5 (38 + 7) nu (nI n)) 32 Q 14) 33 Q (nI nu)) 27 14 (nI (Q + 1))) 38 13 (nI (nu + 1))) c = I c := fun c h => by rw [j_up_cell _ (by omega), j_up_cell _ (by omega), j_up_cell _ (by omega), j_up_cell _ (by omega), j_up_cell _ (by omega)]; exact st.1.1 c (by omega) (by omega)
  have eJ : ∀ c, c = 29 ∨ c = 30 ∨ c = 27 → (j_up (j_up J5 34 nu (nI k)) 0 49 (nI (nu + 1))) c = J c := fun c h => by rw [j_up_cell _ (by omega), j_up_cell _ (by omega)]; exact st.2.1.1 c (by omega) (by omega) (by omega)
  have eL : ∀ c, c = 31 ∨ c = 32 → (j_up L5' 33 nu (lgN (nR w))) c = L' c := fun c h => by rw [j_up_cell _ (by omega)]; exact st.2.1.2.2.2.2.1 c (by omega) (by omega)
  refine ⟨(sFr.of hg st.1 st.2.1).trans (sFr.tell hg f), pOk.tell hg ok5 f n1, ?_, ?_, ?_, by omega, ?_, s6, ?_, ?_, ?_, s10, ?_⟩
  · rw [j_up_own, if_neg (by decide), j_up_cell _ (by decide), j_up_cell _ (by decide), j_up_cell _ (by decide), j_up_cell _ (by decide)]; exact (st.1.2.1 11 (by decide)).trans s1
  · rw [j_up_own, if_neg (by decide), j_up_cell _ (by decide), j_up_cell _ (by decide), j_up_cell _ (by decide), j_up_cell _ (by decide)]; exact (st.1.2.1 12 (by decide)).trans s2
  · rw [j_up_own, if_pos rfl]
  · rw [j_up_own, if_neg (by decide), j_up_cell _ (by decide)]; exact (st.2.1.2.2.2.1 45 (by decide) (by decide) (by decide) (by decide) (by decide)).trans s5
  · exact prL.mv s7 (Nat.le_refl _) st.2.2.2.2.1 st.2.2.2.2.2.1 (fun i hi => by rw [eI (38 + 6) (by decide)]) (fun i hi => by rw [eJ 27 (by decide)]) g1 g2 g3 (fun i hi => rfl)
  · intro i hi
    rcases Nat.lt_or_eq_of_le (show i ≤ nu by omega) with z | z
    · exact prU.mv s8 (Nat.le_refl _) (Nat.le_refl _) st.2.2.2.2.1 st.2.2.2.2.2.1 (fun i hi => by rw [j_up_cell _ (by decide), j_up_cell _ (by decide), j_up_cell _ (by decide), j_up_cell _ (by decide), j_up_own, if_neg (by omega)]; exact congrFun (st.1.1 (38 + 7) (by decide) (by omega)) i) (fun i hi => by rw [j_up_cell _ (by decide), j_up_own, if_neg (by omega)]; exact congrFun (st.2.1.1 34 (by decide) (by decide) (by decide)) i) g1 g2 g3 (fun i hi => rfl) i z
    · subst z
      refine ⟨n, k, nl, nt, wt, Nat.le_refl _, Nat.le_refl _, hwt, ?_, ?_, ?_⟩
      · rw [j_up_cell _ (by decide), j_up_cell _ (by decide), j_up_cell _ (by decide), j_up_cell _ (by decide), j_up_own, if_pos rfl]
      · rw [j_up_cell _ (by decide), j_up_own, if_pos rfl]
      · exact p5.eqs (Nat.le_refl _) (Nat.le_refl _) (fun c hc => f.1 (38 + 1 + c) (by omega) (by omega) (by omega) (by omega)) (fun c hc => f.2.2.2.2.1 (21 + c) (by omega) (by omega) (by omega) (by omega) (by omega)) (j_up_cell _ (by decide) _ _)
  · exact prT.mv s9 (Nat.le_refl _) (fun i hi => by rw [eJ 29 (by decide)]) (fun i hi => by rw [eJ 30 (by decide)]) (fun i hi => by rw [eI (38 + 10) (by decide)]) (fun i hi => by rw [eI (38 + 8) (by decide)]) (fun i hi => by rw [eI (38 + 9) (by decide)]) (fun i hi => by rw [eL 31 (by decide)]) (fun i hi => by rw [eL 32 (by decide)])
  · exact Nat.le_trans s11 st.2.2.1
theorem rule_sim38 {d e : Nat} (hd : 140 ≤ d) (he : 140 ≤ e) {wl : Nat → Nat} {np : Nat} {I J : Nat → Nat → Int32} {L L' : Nat → Nat → Int64} {now nc nr : Nat} (hS : pS 38 T K P W U Q nm kd nb nl nt nu wl np now nc nr I L J L') (hK : K now = 97) : jW2 (jv d 14 0 [some (.ref 27), none, none, none] [] (shC, I, L, pX pa pb (some 38) pw)) (jv e 262 43 [some (.ref 0), none, none, none, none, none] [.int 3] (shR, J, L', pR)) (sQ 38 T K P W U now I L J L' (pX pa pb (some 38) pw)) := by
  have hg : 38 = 38 ∨ 38 = 49 := by decide
  obtain ⟨ok, s1, s2, s3, s4, s5, s6, s7, s8, s9, s10, s11⟩ := id hS
  obtain ⟨tk, kw, hN, hC, a5, a6, a7, a8, a9, a10, a11, a12, a13⟩ := id ok
  have hT := tk.1
  have tq := tk.2.2.2.1 now a5
  obtain ⟨d, rfl⟩ : ∃ d', d = d' + 5 := ⟨d - 5, by omega⟩
  obtain ⟨e, rfl⟩ : ∃ e', e = e' + 5 := ⟨e - 5, by omega⟩
  -- behind a fault the first reader goes on
  have ff : ∀ (m1 c1 m2 r2 : Nat) (I3 J3 : Nat → Nat → Int32) (L3 L3' : Nat → Nat → Int64) (x : Int64), eF 38 T 0 now nc nr I L J L' m1 c1 m2 r2 I3 L3 J3 L3' → ∃ I4, jv (d + 5) 14 13 [some (.ref 27), none, none, none] [.long x] (shC, I3, L3, pX pa pb (some 38) pw) = some (none, (shC, I4, L3, pX pa pb (some 38) pw)) ∧ sFr 38 I I4 L L3 J J3 L' L3' ∧ sB I4 J3 := by
    intro m1 c1 m2 r2 I3 J3 L3 L3' x hf
    obtain ⟨y, I4, e1, e2⟩ := cond_cf38 (d := d - 2) (L := L3) (pa := pa) (pb := pb) (pw := pw) hf.f.1 hf.2.2.2.2.1 (by have := hf.2.2.2.1; omega) hf.2.2.2.2.2.2.2.1 hf.2.2.2.2.2.2.1 1 none none none none
    obtain ⟨nc3, hf3⟩ := eF.chg hg hf (e2.le hf.2.2.2.2.2.1) hf.2.2.2.2.2.2.2.1
    refine ⟨I4, ?_, sFr.of hg hf3.1 hf3.2.1, hf3.b⟩
    rw [show d - 2 + 6 = d + 4 by omega] at e1
    rw [B14_13_g38, jgo_some (d := d + 4) rfl e1]
    dsimp only [Option.toList_some, Option.toList_none, List.cons_append, List.nil_append]
    rw [B14_19_g38, jgo_some (d := d + 4) rfl (expect_cf (d := d + 3) hf3.f.1 _)]
    dsimp only [Option.toList_some, Option.toList_none, List.cons_append, List.nil_append]
    rw [B14_26_g38, if_pos rfl, B14_72_g38]
  rw [B14_0_g38, s3, B262_43, a11, if_pos (j_in_nI (by omega) (by decide)), nI_clamp (by omega), tq.2.2.2.1, if_neg (by decide), if_neg (by decide), B262_80, if_neg (by decide), B262_94, if_pos rfl, hN.2.2.2.2.2.2.2.1]
  by_cases hl : nu = 24
  · rw [if_pos (by rw [hl]; rfl), B262_108, show (5 : Int32) = nI 5 from rfl, jgo_some (d := e + 4) rfl (fails_rk a9 5 (P now))]
    have c12 : jv (d + 4) 12 0 [some (.ref 27), some (.int (nI nu)), some (.int 24), none, none] [] (shC, I, L, pX pa pb (some 38) pw) = some (some (.long 0), (shC, flC I 5 (P now), L, pX pa pb (some 38) pw)) := by
      rw [B12_0, if_neg (by rw [hl]; decide), a10, show (5 : Int32) = nI 5 from rfl, jgo_some (d := d + 3) rfl (fail_c tk a5 a8 5)]
      dsimp only [Option.toList_some, Option.toList_none, List.cons_append, List.nil_append]
      rw [B12_14]
    have hf := eSt.fl hg ok.st (f := 5) (p := P now) (by decide) (by omega)
    rw [jgo_some (d := d + 4) rfl c12]
    dsimp only [Option.toList_some, Option.toList_none, List.cons_append, List.nil_append]
    obtain ⟨I4, g1, g2, g3⟩ := ff _ _ _ _ _ _ _ _ 0 hf
    rw [g1, B262_114]
    exact jW2_some (sQ.bad g2 g3)
  have hl2 : nu < 24 := by have := hN.2.2.2.2.1; omega
  rw [if_neg (show ¬ nI nu = (24 : Int32) from fun z => hl ((nI_eq (b := 24) (by omega) (by decide)).mp z))]
  rcases head_sim (d := d + 1) (e := e + 3) (pa := pa) (pb := pb) (pu := some 38) (pw := pw) hg ok hK hl2 (by decide) 3 (nI (P now)) with ⟨w, I3, J3, hw, hnew, ec, er, st3, h293⟩ | ⟨x, I3, J3, m1, c1, m2, r2, ec, er, hf⟩
  case inr =>
    rw [show (24 : Int32) = nI 24 from rfl, jgo_some (d := d + 4) rfl ec, er]
    dsimp only [Option.toList_some, Option.toList_none, List.cons_append, List.nil_append]
    obtain ⟨I4, g1, g2, g3⟩ := ff _ _ _ _ _ _ _ _ x hf
    rw [g1]
    exact jW2_some (sQ.bad g2 g3)
  rw [show (24 : Int32) = nI 24 from rfl, jgo_some (d := d + 4) rfl ec, er]
  dsimp only [Option.toList_some, Option.toList_none, List.cons_append, List.nil_append]
  rw [B14_13_g38, B262_137, if_pos h293, if_neg (by decide), if_neg (by decide)]
  have ok3 := eSt.ok hg ok st3 h293
  refine jW2_go rfl rfl ((top_sim38 (lam := wl nl) (by omega) (by omega)).2 _ _ _ _ _ _ _ ok3) ?_
  intro v S w' S' hq
  obtain ⟨I4, L4, J4, L4', x, y, rfl, rfl, rfl, rfl, vc, vr, I5, J5, ec5, er5, hw5⟩ := eQ.w (d := d + 3) (e := e + 3) hg ok st3 hq (k := 59) (by decide) (by decide) (by decide)
  dsimp only [Option.toList_some, Option.toList_none, List.cons_append, List.nil_append]
  rw [B14_19_g38, B262_284, show (59 : Int32) = nI 59 from rfl, jgo_some (d := d + 4) rfl ec5, show nI 59 = nI (kR 59) from rfl, jgo_some (d := e + 4) rfl er5]
  dsimp only [Option.toList_some, Option.toList_none, List.cons_append, List.nil_append]
  rw [B14_26_g38, B262_292]
  rcases hw5 with ⟨now5, nc5, nr5, n, k, rfl, rfl, lt5, gc5, gr5, hc5, hr5, st5, fc5, fr5, h295, p5, v5⟩ | ⟨m1, c1, m2, r2, v0, hf⟩
  · have j49 : J5 0 49 = nI nu := (st5.2.1.2.2.2.1 49 (by decide) (by decide) (by decide) (by decide) (by decide)).trans hN.2.2.2.2.2.2.2.1
    have i13 : I5 38 13 = nI nu := (st5.1.2.1 13 (by decide)).trans s3
    have hN5 := (eSt.ok hg ok st5 h295).2.2.1
    have hT5 := st5.2.2.2.1
    have hQ : Q < 72 := by have := hN.2.2.1; have := hN.2.2.2.1; have := hN.2.2.2.2.1; omega
    rw [v5, if_neg (by decide), i13, if_pos (j_in_nI hl2 (by decide)), nI_clamp (by omega), j_up_cell _ (show 38 ≠ 45 by decide), i13, j49, if_pos (j_in_nI (by omega) (by decide)), if_pos (j_in_nI (by omega) (by decide)), nI_clamp (by omega), j_up_cell _ (show 0 ≠ 34 by decide), if_pos h295, j49, B262_331, B262_335, show nI nu + 1 = nI (nu + 1) from nI_add nu 1, jgo_some (d := d + 4) rfl (tell_c (d := d + 4) (q := Q) (by rw [j_up_cell _ (by decide)]; exact hN5.2.1) hQ _ _ _)]
    dsimp only [Option.toList_some, Option.toList_none, List.cons_append, List.nil_append]
    rw [B14_59_g38, B14_72_g38, j_up_cell _ (show 38 ≠ 27 by decide), j_up_cell _ (show 38 ≠ 33 by decide), j_up_cell _ (show 38 ≠ 32 by decide), j_up_cell _ (show 38 ≠ 45 by decide), i13, show nI nu + 1 = nI (nu + 1) from nI_add nu 1]
    have r := pS.rule38 hS hl2 st5 h295 hw hnew (wt := wl nl + (now5 - (now + 1 + 1 + 1) - 1)) (by omega) (p5.wide (Nat.zero_le _) (Nat.le_refl _) (Nat.zero_le _) (Nat.le_refl _))
    exact jW2_some (sQ.ok r.1 (by omega) r.2)
  · have j49 : J5 0 49 = nI nu := (hf.2.1.2.2.2.1 49 (by decide) (by decide) (by decide) (by decide) (by decide)).trans hN.2.2.2.2.2.2.2.1
    rw [v0, if_pos rfl, B14_72_g38, j49, if_pos (j_in_nI (by omega) (by decide)), if_pos (j_in_nI (by omega) (by decide)), nI_clamp (by omega), j_up_cell _ (show 0 ≠ 34 by decide), if_neg hf.f.2, B262_331, B262_335]
    refine jW2_some (sQ.bad ((sFr.of hg hf.1 hf.2.1).trans ⟨fun _ _ _ => rfl, rfl, rfl, fun _ _ _ _ _ _ => rfl, fun _ _ => rfl, fun _ _ _ => rfl, fun c h1 h2 => by rw [j_up_cell _ h1, j_up_cell _ (by omega)], fun q h => by rw [j_up_own, if_neg (by omega), j_up_cell _ (by decide)], fun c h => by rw [j_up_cell _ (by omega)]⟩) ?_)
    obtain ⟨f, p, f1, f2, f3, f4, f5, f6⟩ := hf.b
    exact ⟨f, p, f1, f2, f3, f4, by rw [j_up_own, if_neg (by decide), j_up_cell _ (by decide)]; exact f5, by rw [j_up_own, if_neg (by decide), j_up_cell _ (by decide)]; exact f6⟩
/-- a rule is kept -/
theorem pS.rule49 {wl : Nat → Nat} {np : Nat} {I J : Nat → Nat → Int32} {L L' : Nat → Nat → Int64} {now nc nr : Nat} (hS : pS 49 T K P W U Q nm kd nb nl nt nu wl np now nc nr I L J L') (hl : nu < 24) {now5 nc5 nr5 n k : Nat} {I5 J5 : Nat → Nat → Int32} {L5 L5' : Nat → Nat → Int64} (st : eSt 49 T 0 now nc nr I L J L' now5 nc5 nr5 I5 L5 J5 L5') (h29 : J5 0 29 = 0) {w : List Nat} (hw : okW w) (hnew : ¬ hadW Q nm 0 cw0 w) {wt : Nat} (hwt : wt ≤ 1200) (p5 : pst 49 I5 J5 L5' nl nt (wl nl) 75 false wt 0 rho0 0 nc5 0 nr5 n k) : sFr 49 I (j_up (j_up (j_up (j_up (j_up I5 (49 + 7) nu (nI n)) 32 Q 14) 33 Q (nI nu)) 27 14 (nI (Q + 1))) 49 13 (nI (nu + 1))) L (j_up L5 31 Q (lgN (nC w))) J (j_up (j_up J5 34 nu (nI k)) 0 49 (nI (nu + 1))) L' (j_up L5' 33 nu (lgN (nR w))) ∧ pS 49 T K P W U (Q + 1) (upW nm Q w) (upN kd Q 14) (upN nb Q nu) nl nt (nu + 1) wl np now5 nc5 nr5 (j_up (j_up (j_up (j_up (j_up I5 (49 + 7) nu (nI n)) 32 Q 14) 33 Q (nI nu)) 27 14 (nI (Q + 1))) 49 13 (nI (nu + 1))) (j_up L5 31 Q (lgN (nC w))) (j_up (j_up J5 34 nu (nI k)) 0 49 (nI (nu + 1))) (j_up L5' 33 nu (lgN (nR w))) := by
  have hg : 49 = 38 ∨ 49 = 49 := by decide
  obtain ⟨ok, s1, s2, s3, s4, s5, s6, s7, s8, s9, s10, s11⟩ := hS
  have ok5 := eSt.ok hg ok st h29
  obtain ⟨_, _, hN, hC, _⟩ := id ok5
  have f : tF 49 I5 (j_up (j_up (j_up (j_up (j_up I5 (49 + 7) nu (nI n)) 32 Q 14) 33 Q (nI nu)) 27 14 (nI (Q + 1))) 49 13 (nI (nu + 1))) L5 (j_up L5 31 Q (lgN (nC w))) J5 (j_up (j_up J5 34 nu (nI k)) 0 49 (nI (nu + 1))) L5' (j_up L5' 33 nu (lgN (nR w))) :=
    ⟨fun c h1 h2 h3 h4 => by rw [j_up_cell _ (by omega), j_up_cell _ (by omega), j_up_cell _ (by omega), j_up_cell _ (by omega), j_up_cell _ (by omega)], fun q h1 => by rw [j_up_cell _ (by decide), j_up_own, if_neg h1, j_up_cell _ (by decide), j_up_cell _ (by decide), j_up_cell _ (by decide)], fun q h1 => by rw [j_up_own, if_neg (by omega), j_up_cell _ (by decide), j_up_cell _ (by decide), j_up_cell _ (by decide), j_up_cell _ (by decide)], fun c h1 => by rw [j_up_cell _ h1], fun c h1 h2 h3 h4 h5 => by rw [j_up_cell _ h1, j_up_cell _ h5], fun q h1 h2 h3 h4 => by rw [j_up_own, if_neg h4, j_up_cell _ (by decide)], fun c h1 h2 h3 h4 h5 => by rw [j_up_cell _ h5]⟩
  have n1 := nmS.tell (I1 := j_up (j_up (j_up (j_up (j_up I5 (49 + 7) nu (nI n)) 32 Q 14) 33 Q (nI nu)) 27 14 (nI (Q + 1))) 49 13 (nI (nu + 1))) (L1 := j_up L5 31 Q (lgN (nC w))) (J1 := j_up (j_up J5 34 nu (nI k)) 0 49 (nI (nu + 1))) (L1' := j_up L5' 33 nu (lgN (nR w))) hN (by have := hN.2.2.1; have := hN.2.2.2.1; have := hN.2.2.2.2.1; omega) hw (fun q hq z => hnew (Or.inr (Or.inr (Or.inr (Or.inl ⟨q, hq, z⟩))))) (k := 14) (b := nu) (nl2 := nl) (nt2 := nt) (nu2 := nu + 1) ⟨Nat.le_refl _, hN.2.2.1⟩ ⟨Nat.le_refl _, hN.2.2.2.1⟩ ⟨by omega, by omega⟩ (by rw [j_up_cell _ (by decide), j_up_own, if_pos rfl]) (by rw [j_up_own, if_neg (by decide), j_up_cell _ (by decide)]; exact hN.2.2.2.2.2.1) (by rw [j_up_own, if_neg (by decide), j_up_cell _ (by decide)]; exact hN.2.2.2.2.2.2.1) (by rw [j_up_own, if_pos rfl]) (fun q hq => by rw [j_up_own, if_neg (by omega)]) (by rw [j_up_own, if_pos rfl]) (fun q hq => by rw [j_up_cell _ (by decide), j_up_cell _ (by decide), j_up_cell _ (by decide), j_up_own, if_neg (by omega), j_up_cell _ (by decide)]) (by rw [j_up_cell _ (by decide), j_up_cell _ (by decide), j_up_cell _ (by decide), j_up_own, if_pos rfl]; rfl) (fun q hq => by rw [j_up_cell _ (by decide), j_up_cell _ (by decide), j_up_own, if_neg (by omega), j_up_cell _ (by decide), j_up_cell _ (by decide)]) (by rw [j_up_cell _ (by decide), j_up_cell _ (by decide), j_up_own, if_pos rfl]) (fun i hi => by rw [j_up_cell _ (by decide)]) (fun i hi => by rw [j_up_cell _ (by decide)]) (fun i hi => by rw [j_up_own, if_neg (by omega)]) (Or.inr (Or.inr ⟨rfl, rfl, rfl, rfl, rfl, by rw [j_up_own, if_pos rfl]⟩))
  have g1 : ∀ c, c < 5 → ∀ i, i < nc → (j_up (j_up (j_up (j_up (j_up I5 (49 + 7) nu (nI n)) 32 Q 14) 33 Q (nI nu)) 27 14 (nI (Q + 1))) 49 13 (nI (nu + 1))) (49 + 1 + c) i = I (49 + 1 + c) i := fun c hc i hi => by rw [f.1 (49 + 1 + c) (by omega) (by omega) (by omega) (by omega)]; exact st.1.2.2.1 c hc i hi
  have g2 : ∀ c, c < 4 → ∀ i, i < nr → (j_up (j_up J5 34 nu (nI k)) 0 49 (nI (nu + 1))) (21 + c) i = J (21 + c) i := fun c hc i hi => by rw [f.2.2.2.2.1 (21 + c) (by omega) (by omega) (by omega) (by omega) (by omega)]; exact st.2.1.2.1 c hc i hi
  have g3 : ∀ i, i < nr → j_up L5' 33 nu (lgN (nR w)) 25 i = L' 25 i := fun i hi => by rw [j_up_cell _ (by decide)]; exact st.2.1.2.2.2.2.2.1 i hi
  have eI : ∀ c, c = 49 + 6 ∨ c = 49 + 8 ∨ c = 49 + 9 ∨ c = 49 + 10 → (j_up (j_up (j_up (j_up (j_up I5 (49 + 7) nu (nI n)) 32 Q 14) 33 Q (nI nu)) 27 14 (nI (Q + 1))) 49 13 (nI (nu + 1))) c = I c := fun c h => by rw [j_up_cell _ (by omega), j_up_cell _ (by omega), j_up_cell _ (by omega), j_up_cell _ (by omega), j_up_cell _ (by omega)]; exact st.1.1 c (by omega) (by omega)
  have eJ : ∀ c, c = 29 ∨ c = 30 ∨ c = 27 → (j_up (j_up J5 34 nu (nI k)) 0 49 (nI (nu + 1))) c = J c := fun c h => by rw [j_up_cell _ (by omega), j_up_cell _ (by omega)]; exact st.2.1.1 c (by omega) (by omega) (by omega)
  have eL : ∀ c, c = 31 ∨ c = 32 → (j_up L5' 33 nu (lgN (nR w))) c = L' c := fun c h => by rw [j_up_cell _ (by omega)]; exact st.2.1.2.2.2.2.1 c (by omega) (by omega)
  refine ⟨(sFr.of hg st.1 st.2.1).trans (sFr.tell hg f), pOk.tell hg ok5 f n1, ?_, ?_, ?_, by omega, ?_, s6, ?_, ?_, ?_, s10, ?_⟩
  · rw [j_up_own, if_neg (by decide), j_up_cell _ (by decide), j_up_cell _ (by decide), j_up_cell _ (by decide), j_up_cell _ (by decide)]; exact (st.1.2.1 11 (by decide)).trans s1
  · rw [j_up_own, if_neg (by decide), j_up_cell _ (by decide), j_up_cell _ (by decide), j_up_cell _ (by decide), j_up_cell _ (by decide)]; exact (st.1.2.1 12 (by decide)).trans s2
  · rw [j_up_own, if_pos rfl]
  · rw [j_up_own, if_neg (by decide), j_up_cell _ (by decide)]; exact (st.2.1.2.2.2.1 45 (by decide) (by decide) (by decide) (by decide) (by decide)).trans s5
  · exact prL.mv s7 (Nat.le_refl _) st.2.2.2.2.1 st.2.2.2.2.2.1 (fun i hi => by rw [eI (49 + 6) (by decide)]) (fun i hi => by rw [eJ 27 (by decide)]) g1 g2 g3 (fun i hi => rfl)
  · intro i hi
    rcases Nat.lt_or_eq_of_le (show i ≤ nu by omega) with z | z
    · exact prU.mv s8 (Nat.le_refl _) (Nat.le_refl _) st.2.2.2.2.1 st.2.2.2.2.2.1 (fun i hi => by rw [j_up_cell _ (by decide), j_up_cell _ (by decide), j_up_cell _ (by decide), j_up_cell _ (by decide), j_up_own, if_neg (by omega)]; exact congrFun (st.1.1 (49 + 7) (by decide) (by omega)) i) (fun i hi => by rw [j_up_cell _ (by decide), j_up_own, if_neg (by omega)]; exact congrFun (st.2.1.1 34 (by decide) (by decide) (by decide)) i) g1 g2 g3 (fun i hi => rfl) i z
    · subst z
      refine ⟨n, k, nl, nt, wt, Nat.le_refl _, Nat.le_refl _, hwt, ?_, ?_, ?_⟩
      · rw [j_up_cell _ (by decide), j_up_cell _ (by decide), j_up_cell _ (by decide), j_up_cell _ (by decide), j_up_own, if_pos rfl]
      · rw [j_up_cell _ (by decide), j_up_own, if_pos rfl]
      · exact p5.eqs (Nat.le_refl _) (Nat.le_refl _) (fun c hc => f.1 (49 + 1 + c) (by omega) (by omega) (by omega) (by omega)) (fun c hc => f.2.2.2.2.1 (21 + c) (by omega) (by omega) (by omega) (by omega) (by omega)) (j_up_cell _ (by decide) _ _)
  · exact prT.mv s9 (Nat.le_refl _) (fun i hi => by rw [eJ 29 (by decide)]) (fun i hi => by rw [eJ 30 (by decide)]) (fun i hi => by rw [eI (49 + 10) (by decide)]) (fun i hi => by rw [eI (49 + 8) (by decide)]) (fun i hi => by rw [eI (49 + 9) (by decide)]) (fun i hi => by rw [eL 31 (by decide)]) (fun i hi => by rw [eL 32 (by decide)])
  · exact Nat.le_trans s11 st.2.2.1
theorem rule_sim49 {d e : Nat} (hd : 140 ≤ d) (he : 140 ≤ e) {wl : Nat → Nat} {np : Nat} {I J : Nat → Nat → Int32} {L L' : Nat → Nat → Int64} {now nc nr : Nat} (hS : pS 49 T K P W U Q nm kd nb nl nt nu wl np now nc nr I L J L') (hK : K now = 97) : jW2 (jv d 14 0 [some (.ref 27), none, none, none] [] (shC, I, L, pX pa pb (some 49) pw)) (jv e 262 43 [some (.ref 0), none, none, none, none, none] [.int 3] (shR, J, L', pR)) (sQ 49 T K P W U now I L J L' (pX pa pb (some 49) pw)) := by
  have hg : 49 = 38 ∨ 49 = 49 := by decide
  obtain ⟨ok, s1, s2, s3, s4, s5, s6, s7, s8, s9, s10, s11⟩ := id hS
  obtain ⟨tk, kw, hN, hC, a5, a6, a7, a8, a9, a10, a11, a12, a13⟩ := id ok
  have hT := tk.1
  have tq := tk.2.2.2.1 now a5
  obtain ⟨d, rfl⟩ : ∃ d', d = d' + 5 := ⟨d - 5, by omega⟩
  obtain ⟨e, rfl⟩ : ∃ e', e = e' + 5 := ⟨e - 5, by omega⟩
  -- behind a fault the first reader goes on
  have ff : ∀ (m1 c1 m2 r2 : Nat) (I3 J3 : Nat → Nat → Int32) (L3 L3' : Nat → Nat → Int64) (x : Int64), eF 49 T 0 now nc nr I L J L' m1 c1 m2 r2 I3 L3 J3 L3' → ∃ I4, jv (d + 5) 14 13 [some (.ref 27), none, none, none] [.long x] (shC, I3, L3, pX pa pb (some 49) pw) = some (none, (shC, I4, L3, pX pa pb (some 49) pw)) ∧ sFr 49 I I4 L L3 J J3 L' L3' ∧ sB I4 J3 := by
    intro m1 c1 m2 r2 I3 J3 L3 L3' x hf
    obtain ⟨y, I4, e1, e2⟩ := cond_cf49 (d := d - 2) (L := L3) (pa := pa) (pb := pb) (pw := pw) hf.f.1 hf.2.2.2.2.1 (by have := hf.2.2.2.1; omega) hf.2.2.2.2.2.2.2.1 hf.2.2.2.2.2.2.1 1 none none none none
    obtain ⟨nc3, hf3⟩ := eF.chg hg hf (e2.le hf.2.2.2.2.2.1) hf.2.2.2.2.2.2.2.1
    refine ⟨I4, ?_, sFr.of hg hf3.1 hf3.2.1, hf3.b⟩
    rw [show d - 2 + 6 = d + 4 by omega] at e1
    rw [B14_13_g49, jgo_some (d := d + 4) rfl e1]
    dsimp only [Option.toList_some, Option.toList_none, List.cons_append, List.nil_append]
    rw [B14_19_g49, jgo_some (d := d + 4) rfl (expect_cf (d := d + 3) hf3.f.1 _)]
    dsimp only [Option.toList_some, Option.toList_none, List.cons_append, List.nil_append]
    rw [B14_26_g49, if_pos rfl, B14_72_g49]
  rw [B14_0_g49, s3, B262_43, a11, if_pos (j_in_nI (by omega) (by decide)), nI_clamp (by omega), tq.2.2.2.1, if_neg (by decide), if_neg (by decide), B262_80, if_neg (by decide), B262_94, if_pos rfl, hN.2.2.2.2.2.2.2.1]
  by_cases hl : nu = 24
  · rw [if_pos (by rw [hl]; rfl), B262_108, show (5 : Int32) = nI 5 from rfl, jgo_some (d := e + 4) rfl (fails_rk a9 5 (P now))]
    have c12 : jv (d + 4) 12 0 [some (.ref 27), some (.int (nI nu)), some (.int 24), none, none] [] (shC, I, L, pX pa pb (some 49) pw) = some (some (.long 0), (shC, flC I 5 (P now), L, pX pa pb (some 49) pw)) := by
      rw [B12_0, if_neg (by rw [hl]; decide), a10, show (5 : Int32) = nI 5 from rfl, jgo_some (d := d + 3) rfl (fail_c tk a5 a8 5)]
      dsimp only [Option.toList_some, Option.toList_none, List.cons_append, List.nil_append]
      rw [B12_14]
    have hf := eSt.fl hg ok.st (f := 5) (p := P now) (by decide) (by omega)
    rw [jgo_some (d := d + 4) rfl c12]
    dsimp only [Option.toList_some, Option.toList_none, List.cons_append, List.nil_append]
    obtain ⟨I4, g1, g2, g3⟩ := ff _ _ _ _ _ _ _ _ 0 hf
    rw [g1, B262_114]
    exact jW2_some (sQ.bad g2 g3)
  have hl2 : nu < 24 := by have := hN.2.2.2.2.1; omega
  rw [if_neg (show ¬ nI nu = (24 : Int32) from fun z => hl ((nI_eq (b := 24) (by omega) (by decide)).mp z))]
  rcases head_sim (d := d + 1) (e := e + 3) (pa := pa) (pb := pb) (pu := some 49) (pw := pw) hg ok hK hl2 (by decide) 3 (nI (P now)) with ⟨w, I3, J3, hw, hnew, ec, er, st3, h293⟩ | ⟨x, I3, J3, m1, c1, m2, r2, ec, er, hf⟩
  case inr =>
    rw [show (24 : Int32) = nI 24 from rfl, jgo_some (d := d + 4) rfl ec, er]
    dsimp only [Option.toList_some, Option.toList_none, List.cons_append, List.nil_append]
    obtain ⟨I4, g1, g2, g3⟩ := ff _ _ _ _ _ _ _ _ x hf
    rw [g1]
    exact jW2_some (sQ.bad g2 g3)
  rw [show (24 : Int32) = nI 24 from rfl, jgo_some (d := d + 4) rfl ec, er]
  dsimp only [Option.toList_some, Option.toList_none, List.cons_append, List.nil_append]
  rw [B14_13_g49, B262_137, if_pos h293, if_neg (by decide), if_neg (by decide)]
  have ok3 := eSt.ok hg ok st3 h293
  refine jW2_go rfl rfl ((top_sim49 (lam := wl nl) (by omega) (by omega)).2 _ _ _ _ _ _ _ ok3) ?_
  intro v S w' S' hq
  obtain ⟨I4, L4, J4, L4', x, y, rfl, rfl, rfl, rfl, vc, vr, I5, J5, ec5, er5, hw5⟩ := eQ.w (d := d + 3) (e := e + 3) hg ok st3 hq (k := 59) (by decide) (by decide) (by decide)
  dsimp only [Option.toList_some, Option.toList_none, List.cons_append, List.nil_append]
  rw [B14_19_g49, B262_284, show (59 : Int32) = nI 59 from rfl, jgo_some (d := d + 4) rfl ec5, show nI 59 = nI (kR 59) from rfl, jgo_some (d := e + 4) rfl er5]
  dsimp only [Option.toList_some, Option.toList_none, List.cons_append, List.nil_append]
  rw [B14_26_g49, B262_292]
  rcases hw5 with ⟨now5, nc5, nr5, n, k, rfl, rfl, lt5, gc5, gr5, hc5, hr5, st5, fc5, fr5, h295, p5, v5⟩ | ⟨m1, c1, m2, r2, v0, hf⟩
  · have j49 : J5 0 49 = nI nu := (st5.2.1.2.2.2.1 49 (by decide) (by decide) (by decide) (by decide) (by decide)).trans hN.2.2.2.2.2.2.2.1
    have i13 : I5 49 13 = nI nu := (st5.1.2.1 13 (by decide)).trans s3
    have hN5 := (eSt.ok hg ok st5 h295).2.2.1
    have hT5 := st5.2.2.2.1
    have hQ : Q < 72 := by have := hN.2.2.1; have := hN.2.2.2.1; have := hN.2.2.2.2.1; omega
    rw [v5, if_neg (by decide), i13, if_pos (j_in_nI hl2 (by decide)), nI_clamp (by omega), j_up_cell _ (show 49 ≠ 56 by decide), i13, j49, if_pos (j_in_nI (by omega) (by decide)), if_pos (j_in_nI (by omega) (by decide)), nI_clamp (by omega), j_up_cell _ (show 0 ≠ 34 by decide), if_pos h295, j49, B262_331, B262_335, show nI nu + 1 = nI (nu + 1) from nI_add nu 1, jgo_some (d := d + 4) rfl (tell_c (d := d + 4) (q := Q) (by rw [j_up_cell _ (by decide)]; exact hN5.2.1) hQ _ _ _)]
    dsimp only [Option.toList_some, Option.toList_none, List.cons_append, List.nil_append]
    rw [B14_59_g49, B14_72_g49, j_up_cell _ (show 49 ≠ 27 by decide), j_up_cell _ (show 49 ≠ 33 by decide), j_up_cell _ (show 49 ≠ 32 by decide), j_up_cell _ (show 49 ≠ 56 by decide), i13, show nI nu + 1 = nI (nu + 1) from nI_add nu 1]
    have r := pS.rule49 hS hl2 st5 h295 hw hnew (wt := wl nl + (now5 - (now + 1 + 1 + 1) - 1)) (by omega) (p5.wide (Nat.zero_le _) (Nat.le_refl _) (Nat.zero_le _) (Nat.le_refl _))
    exact jW2_some (sQ.ok r.1 (by omega) r.2)
  · have j49 : J5 0 49 = nI nu := (hf.2.1.2.2.2.1 49 (by decide) (by decide) (by decide) (by decide) (by decide)).trans hN.2.2.2.2.2.2.2.1
    rw [v0, if_pos rfl, B14_72_g49, j49, if_pos (j_in_nI (by omega) (by decide)), if_pos (j_in_nI (by omega) (by decide)), nI_clamp (by omega), j_up_cell _ (show 0 ≠ 34 by decide), if_neg hf.f.2, B262_331, B262_335]
    refine jW2_some (sQ.bad ((sFr.of hg hf.1 hf.2.1).trans ⟨fun _ _ _ => rfl, rfl, rfl, fun _ _ _ _ _ _ => rfl, fun _ _ => rfl, fun _ _ _ => rfl, fun c h1 h2 => by rw [j_up_cell _ h1, j_up_cell _ (by omega)], fun q h => by rw [j_up_own, if_neg (by omega), j_up_cell _ (by decide)], fun c h => by rw [j_up_cell _ (by omega)]⟩) ?_)
    obtain ⟨f, p, f1, f2, f3, f4, f5, f6⟩ := hf.b
    exact ⟨f, p, f1, f2, f3, f4, by rw [j_up_own, if_neg (by decide), j_up_cell _ (by decide)]; exact f5, by rw [j_up_own, if_neg (by decide), j_up_cell _ (by decide)]; exact f6⟩
end PARU
