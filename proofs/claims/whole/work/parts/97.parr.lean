/-! RULES: all sums and conditions, at every depth -/
section PARR
variable {T : Nat} {K P : Nat → Nat} {W : Nat → List Nat} {U : Nat → Nat} {Q : Nat} {nm : Nat → List Nat} {kd nb : Nat → Nat} {nl nt nu s : Nat} {cw : Nat → List Nat} {rho : Nat → Nat} {lam : Nat} {pa pb pw : Option Nat}
theorem eQ.up {g : Nat} {h h2 : Nat} {b : Bool} {now nc nr : Nat} {I J : Nat → Nat → Int32} {L L' : Nat → Nat → Int64} {px : Nat → Nat → Option Nat} {v w : Option Value} {S S' : jS} (hh : h ≤ h2) (z : eQ g T K P nl nt lam s rho h b now nc nr I L J L' px v S w S') : eQ g T K P nl nt lam s rho h2 b now nc nr I L J L' px v S w S' := by
  obtain ⟨I1, L1, J1, L1', x, y, e1, e2, e3, e4, z⟩ := z
  refine ⟨I1, L1, J1, L1', x, y, e1, e2, e3, e4, ?_⟩
  rcases z with ⟨now2, nc2, nr2, n, k, lt, st, f1, f2, ⟨h29, p⟩ | z⟩ | z
  · exact Or.inl ⟨now2, nc2, nr2, n, k, lt, st, f1, f2, Or.inl ⟨h29, p.eqs hh (Nat.le_refl _) (fun _ _ => rfl) (fun _ _ => rfl) rfl⟩⟩
  · exact Or.inl ⟨now2, nc2, nr2, n, k, lt, st, f1, f2, Or.inr z⟩
  · exact Or.inr z
theorem factor_038 {d e h : Nat} {D D' : Int32} (dc : 24 < D) (dr : D' = 24) {I J : Nat → Nat → Int32} {L L' : Nat → Nat → Int64} {now nc nr : Nat} (ok : pOk 38 T K P W U Q nm kd nb nl nt nu s cw rho now nc nr I L J L') : jW2 (jv (d + 1) 27 0 [some (.ref 27), some (.int D), none] [] (shC, I, L, pX pa pb (some 38) pw)) (jv (e + 1) 272 0 [some (.ref 0), some (.int D'), none, none, none, none] [] (shR, J, L', pR)) (eQ 38 T K P nl nt lam s rho h true now nc nr I L J L' (pX pa pb (some 38) pw)) := by
  have hg : 38 = 38 ∨ 38 = 49 := by decide
  obtain ⟨tk, kw, hN, hC, a5, a6, a7, a8, a9, a10, a11, a12, a13⟩ := id ok
  have hT := ok.1.1
  have tq := tk.2.2.2.1 now a5
  rw [B27_0_g38, B272_0, if_pos a9, a10, a11, if_pos (j_in_nI (by omega) (by decide)), nI_clamp (by omega), tq.2.2.2.1, if_pos dc, if_pos dr, show (5 : Int32) = nI 5 from rfl, jgo_some (d := d) rfl (fail_c tk a5 a8 5), jgo_some (d := e) rfl (fails_rk a9 5 (P now))]
  dsimp only [Option.toList_some, Option.toList_none, List.cons_append, List.nil_append]
  rw [B27_15_g38, B272_31]
  exact jW2_some (eQ.f (eSt.fl hg ok.st (by decide) (by omega)) _ _)
theorem neg_038 {d e h : Nat} {D D' : Int32} (dc : 24 < D) (dr : D' = 24) {I J : Nat → Nat → Int32} {L L' : Nat → Nat → Int64} {now nc nr : Nat} (ok : pOk 38 T K P W U Q nm kd nb nl nt nu s cw rho now nc nr I L J L') : jW2 (jv (d + 1) 24 0 [some (.ref 27), some (.int D), none, none] [] (shC, I, L, pX pa pb (some 38) pw)) (jv (e + 1) 269 0 [some (.ref 0), some (.int D'), none, none] [] (shR, J, L', pR)) (eQ 38 T K P nl nt lam s rho h false now nc nr I L J L' (pX pa pb (some 38) pw)) := by
  have hg : 38 = 38 ∨ 38 = 49 := by decide
  obtain ⟨tk, kw, hN, hC, a5, a6, a7, a8, a9, a10, a11, a12, a13⟩ := id ok
  have hT := ok.1.1
  have tq := tk.2.2.2.1 now a5
  rw [B24_0_g38, B269_0, if_pos a9, if_pos dc, if_pos dr, a10, a11, if_pos (j_in_nI (by omega) (by decide)), nI_clamp (by omega), tq.2.2.2.1, show (5 : Int32) = nI 5 from rfl, jgo_some (d := d) rfl (fail_c tk a5 a8 5), jgo_some (d := e) rfl (fails_rk a9 5 (P now))]
  dsimp only [Option.toList_some, Option.toList_none, List.cons_append, List.nil_append]
  rw [B24_15_g38, B269_29]
  exact jW2_some (eQ.f (eSt.fl hg ok.st (by decide) (by omega)) _ _)
/-- from parts and negatives to sums and conditions -/
theorem sums_of38 {r : Nat} {D D' : Int32} (H : ∀ d e, 5 * r + 9 ≤ d → 5 * r + 9 ≤ e → (∀ (I : Nat → Nat → Int32) (L : Nat → Nat → Int64) (J : Nat → Nat → Int32) (L' : Nat → Nat → Int64) (now nc nr : Nat), pOk 38 T K P W U Q nm kd nb nl nt nu s cw rho now nc nr I L J L' → jW2 (jv d 27 0 [some (.ref 27), some (.int D), none] [] (shC, I, L, pX pa pb (some 38) pw)) (jv e 272 0 [some (.ref 0), some (.int D'), none, none, none, none] [] (shR, J, L', pR)) (eQ 38 T K P nl nt lam s rho (3 * r + 1) true now nc nr I L J L' (pX pa pb (some 38) pw))) ∧ (∀ (I : Nat → Nat → Int32) (L : Nat → Nat → Int64) (J : Nat → Nat → Int32) (L' : Nat → Nat → Int64) (now nc nr : Nat), pOk 38 T K P W U Q nm kd nb nl nt nu s cw rho now nc nr I L J L' → jW2 (jv d 24 0 [some (.ref 27), some (.int D), none, none] [] (shC, I, L, pX pa pb (some 38) pw)) (jv e 269 0 [some (.ref 0), some (.int D'), none, none] [] (shR, J, L', pR)) (eQ 38 T K P nl nt lam s rho (3 * r + 1) false now nc nr I L J L' (pX pa pb (some 38) pw)))) : ∀ d e, 5 * r + 11 ≤ d → 5 * r + 11 ≤ e → (∀ (I : Nat → Nat → Int32) (L : Nat → Nat → Int64) (J : Nat → Nat → Int32) (L' : Nat → Nat → Int64) (now nc nr : Nat), pOk 38 T K P W U Q nm kd nb nl nt nu s cw rho now nc nr I L J L' → jW2 (jv d 25 0 [some (.ref 27), some (.int D), none, none, none, none, none] [] (shC, I, L, pX pa pb (some 38) pw)) (jv e 270 0 [some (.ref 0), some (.int D'), none, none] [] (shR, J, L', pR)) (eQ 38 T K P nl nt lam s rho (3 * r + 3) true now nc nr I L J L' (pX pa pb (some 38) pw))) ∧ (∀ (I : Nat → Nat → Int32) (L : Nat → Nat → Int64) (J : Nat → Nat → Int32) (L' : Nat → Nat → Int64) (now nc nr : Nat), pOk 38 T K P W U Q nm kd nb nl nt nu s cw rho now nc nr I L J L' → jW2 (jv d 21 0 [some (.ref 27), some (.int D), none, none, none, none] [] (shC, I, L, pX pa pb (some 38) pw)) (jv e 267 0 [some (.ref 0), some (.int D'), none] [] (shR, J, L', pR)) (eQ 38 T K P nl nt lam s rho (3 * r + 3) false now nc nr I L J L' (pX pa pb (some 38) pw))) := by
  intro d e hd he
  obtain ⟨d, rfl⟩ : ∃ d', d = d' + 3 := ⟨d - 3, by omega⟩
  obtain ⟨e, rfl⟩ : ∃ e', e = e' + 3 := ⟨e - 3, by omega⟩
  have h1 := H (d + 1) (e + 1) (by omega) (by omega)
  constructor
  · intro I L J L' now nc nr ok
    exact sum_sim38 (d := d + 2) (e := e + 2) (fun I L J L' now nc nr ok => prod_sim38 (d := d + 1) (e := e + 1) h1.1 ok) ok
  · intro I L J L' now nc nr ok
    exact cond_sim38 (d := d + 1) (e := e + 1) (fun I L J L' now nc nr ok => both_sim38 (d := d) (e := e) h1.2 ok) ok
theorem all_sim38 : ∀ (r : Nat), r ≤ 24 → ∀ (s : Nat) (cw : Nat → List Nat) (rho : Nat → Nat), s + r ≤ 24 → ∀ d e, 5 * r + 9 ≤ d → 5 * r + 9 ≤ e → (∀ (I : Nat → Nat → Int32) (L : Nat → Nat → Int64) (J : Nat → Nat → Int32) (L' : Nat → Nat → Int64) (now nc nr : Nat), pOk 38 T K P W U Q nm kd nb nl nt nu s cw rho now nc nr I L J L' → jW2 (jv d 27 0 [some (.ref 27), some (.int (nI (25 - r))), none] [] (shC, I, L, pX pa pb (some 38) pw)) (jv e 272 0 [some (.ref 0), some (.int (nI (24 - r))), none, none, none, none] [] (shR, J, L', pR)) (eQ 38 T K P nl nt lam s rho (3 * r + 1) true now nc nr I L J L' (pX pa pb (some 38) pw))) ∧ (∀ (I : Nat → Nat → Int32) (L : Nat → Nat → Int64) (J : Nat → Nat → Int32) (L' : Nat → Nat → Int64) (now nc nr : Nat), pOk 38 T K P W U Q nm kd nb nl nt nu s cw rho now nc nr I L J L' → jW2 (jv d 24 0 [some (.ref 27), some (.int (nI (25 - r))), none, none] [] (shC, I, L, pX pa pb (some 38) pw)) (jv e 269 0 [some (.ref 0), some (.int (nI (24 - r))), none, none] [] (shR, J, L', pR)) (eQ 38 T K P nl nt lam s rho (3 * r + 1) false now nc nr I L J L' (pX pa pb (some 38) pw))) := by
  intro r
  induction r with
  | zero =>
    intro _ s cw rho _ d e hd he
    obtain ⟨d, rfl⟩ : ∃ d', d = d' + 1 := ⟨d - 1, by omega⟩
    obtain ⟨e, rfl⟩ : ∃ e', e = e' + 1 := ⟨e - 1, by omega⟩
    exact ⟨fun I L J L' now nc nr ok => factor_038 (by decide) rfl ok, fun I L J L' now nc nr ok => neg_038 (by decide) rfl ok⟩
  | succ r ih =>
    intro hr s cw rho hs d e hd he
    obtain ⟨d, rfl⟩ : ∃ d', d = d' + 8 := ⟨d - 8, by omega⟩
    obtain ⟨e, rfl⟩ : ∃ e', e = e' + 8 := ⟨e - 8, by omega⟩
    have d1 : nI (25 - (r + 1)) + 1 = nI (25 - r) := by rw [show nI (25 - (r + 1)) + 1 = nI (25 - (r + 1) + 1) from nI_add _ 1, show 25 - (r + 1) + 1 = 25 - r by omega]
    have d2 : nI (24 - (r + 1)) + 1 = nI (24 - r) := by rw [show nI (24 - (r + 1)) + 1 = nI (24 - (r + 1) + 1) from nI_add _ 1, show 24 - (r + 1) + 1 = 24 - r by omega]
    have hD : ¬ (24 : Int32) < nI (25 - (r + 1)) ∧ nI (24 - (r + 1)) ≠ 24 := ⟨nI_nlt (a := 24) (by omega) (by omega), fun z => by have := (nI_eq (b := 24) (by omega) (by decide)).mp z; omega⟩
    have S1 := sums_of38 (ih (by omega) s cw rho (by omega))
    constructor
    · intro I L J L' now nc nr ok
      refine factor_sim38 (d := d) (e := e) (h := 3 * r + 3) (Or.inr hD) (fun _ => by omega) ?_ ?_ ?_ ?_ ?_ ?_ ok
      · rw [d1, d2]
        exact fun I L J L' now nc nr ok => jW2_mono ((ih (by omega) s cw rho (by omega) (d + 7) (e + 7) (by omega) (by omega)).1 I L J L' now nc nr ok) (fun v S w S' z => eQ.up (by omega) z)
      · rw [d1, d2]; exact (S1 (d + 6) (e + 6) (by omega) (by omega)).2
      · rw [d1, d2]; exact (S1 (d + 6) (e + 6) (by omega) (by omega)).1
      · rw [d1, d2]; exact (S1 (d + 5) (e + 5) (by omega) (by omega)).1
      · rw [d1, d2]; exact (S1 (d + 6) (e + 7) (by omega) (by omega)).1
      · rw [d1, d2]
        intro w' r' I L J L' now nc nr _ ok
        exact (sums_of38 (ih (by omega) (s + 1) (upW cw s w') (upN rho s r') (by omega)) (d + 6) (e + 6) (by omega) (by omega)).1 I L J L' now nc nr ok
    · intro I L J L' now nc nr ok
      refine neg_sim38 (d := d + 1) (e := e + 1) (h := 3 * r + 3) (Or.inr hD) ?_ ?_ ?_ ok
      · rw [d1, d2]
        exact fun I L J L' now nc nr ok => jW2_mono ((ih (by omega) s cw rho (by omega) (d + 7) (e + 7) (by omega) (by omega)).2 I L J L' now nc nr ok) (fun v S w S' z => eQ.up (by omega) z)
      · rw [d1, d2]; exact (S1 (d + 7) (e + 7) (by omega) (by omega)).2
      · rw [d1, d2]; exact (S1 (d + 7) (e + 7) (by omega) (by omega)).1
/-- a sum and a condition of a statement -/
theorem top_sim38 {d e : Nat} (hd : 131 ≤ d) (he : 131 ≤ e) : (∀ (I : Nat → Nat → Int32) (L : Nat → Nat → Int64) (J : Nat → Nat → Int32) (L' : Nat → Nat → Int64) (now nc nr : Nat), pOk 38 T K P W U Q nm kd nb nl nt nu 0 cw rho now nc nr I L J L' → jW2 (jv d 25 0 [some (.ref 27), some (.int 1), none, none, none, none, none] [] (shC, I, L, pX pa pb (some 38) pw)) (jv e 270 0 [some (.ref 0), some (.int 0), none, none] [] (shR, J, L', pR)) (eQ 38 T K P nl nt lam 0 rho 75 true now nc nr I L J L' (pX pa pb (some 38) pw))) ∧ (∀ (I : Nat → Nat → Int32) (L : Nat → Nat → Int64) (J : Nat → Nat → Int32) (L' : Nat → Nat → Int64) (now nc nr : Nat), pOk 38 T K P W U Q nm kd nb nl nt nu 0 cw rho now nc nr I L J L' → jW2 (jv d 21 0 [some (.ref 27), some (.int 1), none, none, none, none] [] (shC, I, L, pX pa pb (some 38) pw)) (jv e 267 0 [some (.ref 0), some (.int 0), none] [] (shR, J, L', pR)) (eQ 38 T K P nl nt lam 0 rho 75 false now nc nr I L J L' (pX pa pb (some 38) pw))) := sums_of38 (r := 24) (D := 1) (D' := 0) (fun d e hd he => all_sim38 24 (by decide) 0 cw rho (by decide) d e hd he) d e hd he
theorem factor_049 {d e h : Nat} {D D' : Int32} (dc : 24 < D) (dr : D' = 24) {I J : Nat → Nat → Int32} {L L' : Nat → Nat → Int64} {now nc nr : Nat} (ok : pOk 49 T K P W U Q nm kd nb nl nt nu s cw rho now nc nr I L J L') : jW2 (jv (d + 1) 27 0 [some (.ref 27), some (.int D), none] [] (shC, I, L, pX pa pb (some 49) pw)) (jv (e + 1) 272 0 [some (.ref 0), some (.int D'), none, none, none, none] [] (shR, J, L', pR)) (eQ 49 T K P nl nt lam s rho h true now nc nr I L J L' (pX pa pb (some 49) pw)) := by
  have hg : 49 = 38 ∨ 49 = 49 := by decide
  obtain ⟨tk, kw, hN, hC, a5, a6, a7, a8, a9, a10, a11, a12, a13⟩ := id ok
  have hT := ok.1.1
  have tq := tk.2.2.2.1 now a5
  rw [B27_0_g49, B272_0, if_pos a9, a10, a11, if_pos (j_in_nI (by omega) (by decide)), nI_clamp (by omega), tq.2.2.2.1, if_pos dc, if_pos dr, show (5 : Int32) = nI 5 from rfl, jgo_some (d := d) rfl (fail_c tk a5 a8 5), jgo_some (d := e) rfl (fails_rk a9 5 (P now))]
  dsimp only [Option.toList_some, Option.toList_none, List.cons_append, List.nil_append]
  rw [B27_15_g49, B272_31]
  exact jW2_some (eQ.f (eSt.fl hg ok.st (by decide) (by omega)) _ _)
theorem neg_049 {d e h : Nat} {D D' : Int32} (dc : 24 < D) (dr : D' = 24) {I J : Nat → Nat → Int32} {L L' : Nat → Nat → Int64} {now nc nr : Nat} (ok : pOk 49 T K P W U Q nm kd nb nl nt nu s cw rho now nc nr I L J L') : jW2 (jv (d + 1) 24 0 [some (.ref 27), some (.int D), none, none] [] (shC, I, L, pX pa pb (some 49) pw)) (jv (e + 1) 269 0 [some (.ref 0), some (.int D'), none, none] [] (shR, J, L', pR)) (eQ 49 T K P nl nt lam s rho h false now nc nr I L J L' (pX pa pb (some 49) pw)) := by
  have hg : 49 = 38 ∨ 49 = 49 := by decide
  obtain ⟨tk, kw, hN, hC, a5, a6, a7, a8, a9, a10, a11, a12, a13⟩ := id ok
  have hT := ok.1.1
  have tq := tk.2.2.2.1 now a5
  rw [B24_0_g49, B269_0, if_pos a9, if_pos dc, if_pos dr, a10, a11, if_pos (j_in_nI (by omega) (by decide)), nI_clamp (by omega), tq.2.2.2.1, show (5 : Int32) = nI 5 from rfl, jgo_some (d := d) rfl (fail_c tk a5 a8 5), jgo_some (d := e) rfl (fails_rk a9 5 (P now))]
  dsimp only [Option.toList_some, Option.toList_none, List.cons_append, List.nil_append]
  rw [B24_15_g49, B269_29]
  exact jW2_some (eQ.f (eSt.fl hg ok.st (by decide) (by omega)) _ _)
/-- from parts and negatives to sums and conditions -/
theorem sums_of49 {r : Nat} {D D' : Int32} (H : ∀ d e, 5 * r + 9 ≤ d → 5 * r + 9 ≤ e → (∀ (I : Nat → Nat → Int32) (L : Nat → Nat → Int64) (J : Nat → Nat → Int32) (L' : Nat → Nat → Int64) (now nc nr : Nat), pOk 49 T K P W U Q nm kd nb nl nt nu s cw rho now nc nr I L J L' → jW2 (jv d 27 0 [some (.ref 27), some (.int D), none] [] (shC, I, L, pX pa pb (some 49) pw)) (jv e 272 0 [some (.ref 0), some (.int D'), none, none, none, none] [] (shR, J, L', pR)) (eQ 49 T K P nl nt lam s rho (3 * r + 1) true now nc nr I L J L' (pX pa pb (some 49) pw))) ∧ (∀ (I : Nat → Nat → Int32) (L : Nat → Nat → Int64) (J : Nat → Nat → Int32) (L' : Nat → Nat → Int64) (now nc nr : Nat), pOk 49 T K P W U Q nm kd nb nl nt nu s cw rho now nc nr I L J L' → jW2 (jv d 24 0 [some (.ref 27), some (.int D), none, none] [] (shC, I, L, pX pa pb (some 49) pw)) (jv e 269 0 [some (.ref 0), some (.int D'), none, none] [] (shR, J, L', pR)) (eQ 49 T K P nl nt lam s rho (3 * r + 1) false now nc nr I L J L' (pX pa pb (some 49) pw)))) : ∀ d e, 5 * r + 11 ≤ d → 5 * r + 11 ≤ e → (∀ (I : Nat → Nat → Int32) (L : Nat → Nat → Int64) (J : Nat → Nat → Int32) (L' : Nat → Nat → Int64) (now nc nr : Nat), pOk 49 T K P W U Q nm kd nb nl nt nu s cw rho now nc nr I L J L' → jW2 (jv d 25 0 [some (.ref 27), some (.int D), none, none, none, none, none] [] (shC, I, L, pX pa pb (some 49) pw)) (jv e 270 0 [some (.ref 0), some (.int D'), none, none] [] (shR, J, L', pR)) (eQ 49 T K P nl nt lam s rho (3 * r + 3) true now nc nr I L J L' (pX pa pb (some 49) pw))) ∧ (∀ (I : Nat → Nat → Int32) (L : Nat → Nat → Int64) (J : Nat → Nat → Int32) (L' : Nat → Nat → Int64) (now nc nr : Nat), pOk 49 T K P W U Q nm kd nb nl nt nu s cw rho now nc nr I L J L' → jW2 (jv d 21 0 [some (.ref 27), some (.int D), none, none, none, none] [] (shC, I, L, pX pa pb (some 49) pw)) (jv e 267 0 [some (.ref 0), some (.int D'), none] [] (shR, J, L', pR)) (eQ 49 T K P nl nt lam s rho (3 * r + 3) false now nc nr I L J L' (pX pa pb (some 49) pw))) := by
  intro d e hd he
  obtain ⟨d, rfl⟩ : ∃ d', d = d' + 3 := ⟨d - 3, by omega⟩
  obtain ⟨e, rfl⟩ : ∃ e', e = e' + 3 := ⟨e - 3, by omega⟩
  have h1 := H (d + 1) (e + 1) (by omega) (by omega)
  constructor
  · intro I L J L' now nc nr ok
    exact sum_sim49 (d := d + 2) (e := e + 2) (fun I L J L' now nc nr ok => prod_sim49 (d := d + 1) (e := e + 1) h1.1 ok) ok
  · intro I L J L' now nc nr ok
    exact cond_sim49 (d := d + 1) (e := e + 1) (fun I L J L' now nc nr ok => both_sim49 (d := d) (e := e) h1.2 ok) ok
theorem all_sim49 : ∀ (r : Nat), r ≤ 24 → ∀ (s : Nat) (cw : Nat → List Nat) (rho : Nat → Nat), s + r ≤ 24 → ∀ d e, 5 * r + 9 ≤ d → 5 * r + 9 ≤ e → (∀ (I : Nat → Nat → Int32) (L : Nat → Nat → Int64) (J : Nat → Nat → Int32) (L' : Nat → Nat → Int64) (now nc nr : Nat), pOk 49 T K P W U Q nm kd nb nl nt nu s cw rho now nc nr I L J L' → jW2 (jv d 27 0 [some (.ref 27), some (.int (nI (25 - r))), none] [] (shC, I, L, pX pa pb (some 49) pw)) (jv e 272 0 [some (.ref 0), some (.int (nI (24 - r))), none, none, none, none] [] (shR, J, L', pR)) (eQ 49 T K P nl nt lam s rho (3 * r + 1) true now nc nr I L J L' (pX pa pb (some 49) pw))) ∧ (∀ (I : Nat → Nat → Int32) (L : Nat → Nat → Int64) (J : Nat → Nat → Int32) (L' : Nat → Nat → Int64) (now nc nr : Nat), pOk 49 T K P W U Q nm kd nb nl nt nu s cw rho now nc nr I L J L' → jW2 (jv d 24 0 [some (.ref 27), some (.int (nI (25 - r))), none, none] [] (shC, I, L, pX pa pb (some 49) pw)) (jv e 269 0 [some (.ref 0), some (.int (nI (24 - r))), none, none] [] (shR, J, L', pR)) (eQ 49 T K P nl nt lam s rho (3 * r + 1) false now nc nr I L J L' (pX pa pb (some 49) pw))) := by
  intro r
  induction r with
  | zero =>
    intro _ s cw rho _ d e hd he
    obtain ⟨d, rfl⟩ : ∃ d', d = d' + 1 := ⟨d - 1, by omega⟩
    obtain ⟨e, rfl⟩ : ∃ e', e = e' + 1 := ⟨e - 1, by omega⟩
    exact ⟨fun I L J L' now nc nr ok => factor_049 (by decide) rfl ok, fun I L J L' now nc nr ok => neg_049 (by decide) rfl ok⟩
  | succ r ih =>
    intro hr s cw rho hs d e hd he
    obtain ⟨d, rfl⟩ : ∃ d', d = d' + 8 := ⟨d - 8, by omega⟩
    obtain ⟨e, rfl⟩ : ∃ e', e = e' + 8 := ⟨e - 8, by omega⟩
    have d1 : nI (25 - (r + 1)) + 1 = nI (25 - r) := by rw [show nI (25 - (r + 1)) + 1 = nI (25 - (r + 1) + 1) from nI_add _ 1, show 25 - (r + 1) + 1 = 25 - r by omega]
    have d2 : nI (24 - (r + 1)) + 1 = nI (24 - r) := by rw [show nI (24 - (r + 1)) + 1 = nI (24 - (r + 1) + 1) from nI_add _ 1, show 24 - (r + 1) + 1 = 24 - r by omega]
    have hD : ¬ (24 : Int32) < nI (25 - (r + 1)) ∧ nI (24 - (r + 1)) ≠ 24 := ⟨nI_nlt (a := 24) (by omega) (by omega), fun z => by have := (nI_eq (b := 24) (by omega) (by decide)).mp z; omega⟩
    have S1 := sums_of49 (ih (by omega) s cw rho (by omega))
    constructor
    · intro I L J L' now nc nr ok
      refine factor_sim49 (d := d) (e := e) (h := 3 * r + 3) (Or.inr hD) (fun _ => by omega) ?_ ?_ ?_ ?_ ?_ ?_ ok
      · rw [d1, d2]
        exact fun I L J L' now nc nr ok => jW2_mono ((ih (by omega) s cw rho (by omega) (d + 7) (e + 7) (by omega) (by omega)).1 I L J L' now nc nr ok) (fun v S w S' z => eQ.up (by omega) z)
      · rw [d1, d2]; exact (S1 (d + 6) (e + 6) (by omega) (by omega)).2
      · rw [d1, d2]; exact (S1 (d + 6) (e + 6) (by omega) (by omega)).1
      · rw [d1, d2]; exact (S1 (d + 5) (e + 5) (by omega) (by omega)).1
      · rw [d1, d2]; exact (S1 (d + 6) (e + 7) (by omega) (by omega)).1
      · rw [d1, d2]
        intro w' r' I L J L' now nc nr _ ok
        exact (sums_of49 (ih (by omega) (s + 1) (upW cw s w') (upN rho s r') (by omega)) (d + 6) (e + 6) (by omega) (by omega)).1 I L J L' now nc nr ok
    · intro I L J L' now nc nr ok
      refine neg_sim49 (d := d + 1) (e := e + 1) (h := 3 * r + 3) (Or.inr hD) ?_ ?_ ?_ ok
      · rw [d1, d2]
        exact fun I L J L' now nc nr ok => jW2_mono ((ih (by omega) s cw rho (by omega) (d + 7) (e + 7) (by omega) (by omega)).2 I L J L' now nc nr ok) (fun v S w S' z => eQ.up (by omega) z)
      · rw [d1, d2]; exact (S1 (d + 7) (e + 7) (by omega) (by omega)).2
      · rw [d1, d2]; exact (S1 (d + 7) (e + 7) (by omega) (by omega)).1
/-- a sum and a condition of a statement -/
theorem top_sim49 {d e : Nat} (hd : 131 ≤ d) (he : 131 ≤ e) : (∀ (I : Nat → Nat → Int32) (L : Nat → Nat → Int64) (J : Nat → Nat → Int32) (L' : Nat → Nat → Int64) (now nc nr : Nat), pOk 49 T K P W U Q nm kd nb nl nt nu 0 cw rho now nc nr I L J L' → jW2 (jv d 25 0 [some (.ref 27), some (.int 1), none, none, none, none, none] [] (shC, I, L, pX pa pb (some 49) pw)) (jv e 270 0 [some (.ref 0), some (.int 0), none, none] [] (shR, J, L', pR)) (eQ 49 T K P nl nt lam 0 rho 75 true now nc nr I L J L' (pX pa pb (some 49) pw))) ∧ (∀ (I : Nat → Nat → Int32) (L : Nat → Nat → Int64) (J : Nat → Nat → Int32) (L' : Nat → Nat → Int64) (now nc nr : Nat), pOk 49 T K P W U Q nm kd nb nl nt nu 0 cw rho now nc nr I L J L' → jW2 (jv d 21 0 [some (.ref 27), some (.int 1), none, none, none, none] [] (shC, I, L, pX pa pb (some 49) pw)) (jv e 267 0 [some (.ref 0), some (.int 0), none] [] (shR, J, L', pR)) (eQ 49 T K P nl nt lam 0 rho 75 false now nc nr I L J L' (pX pa pb (some 49) pw))) := sums_of49 (r := 24) (D := 1) (D' := 0) (fun d e hd he => all_sim49 24 (by decide) 0 cw rho (by decide) d e hd he) d e hd he
end PARR
