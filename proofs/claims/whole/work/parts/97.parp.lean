/-! RULES: sums, greatest and least over a counter -/
section PARP
variable {T : Nat} {K P : Nat → Nat} {W : Nat → List Nat} {U : Nat → Nat} {Q : Nat} {nm : Nat → List Nat} {kd nb : Nat → Nat} {nl nt nu s : Nat} {cw : Nat → List Nat} {rho : Nat → Nat} {lam : Nat} {pa pb pw : Option Nat}
def upW (f : Nat → List Nat) (T : Nat) (v : List Nat) : Nat → List Nat := fun j => if j = T then v else f j
theorem eFC.up16 {g s nc : Nat} {I I1 : Nat → Nat → Int32} {L L1 : Nat → Nat → Int64} (hg : g = 38 ∨ g = 49) (h : eFC g s nc I I1 L L1) (x : Int32) : eFC g s nc I (j_up I1 27 16 x) L L1 :=
  ⟨fun c h1 h2 => by rw [j_up_cell _ h1]; exact h.1 c h1 h2, fun q h1 => by rw [j_up_cell _ (by omega)]; exact h.2.1 q h1, fun c h1 i h2 => by rw [j_up_cell _ (by omega)]; exact h.2.2.1 c h1 i h2, fun q h1 h2 h3 h4 => by rw [j_up_own, if_neg h4]; exact h.2.2.2.1 q h1 h2 h3 h4, h.2.2.2.2.1, h.2.2.2.2.2⟩
theorem eFC.upL {g s nc j : Nat} {I I1 : Nat → Nat → Int32} {L L1 : Nat → Nat → Int64} (h : eFC g s nc I I1 L L1) (hj : s ≤ j) (x : Int64) : eFC g s nc I I1 L (j_up L1 34 j x) :=
  ⟨h.1, h.2.1, h.2.2.1, h.2.2.2.1, fun c h1 => by rw [j_up_cell _ h1]; exact h.2.2.2.2.1 c h1, fun i h1 => by rw [j_up_own, if_neg (by omega)]; exact h.2.2.2.2.2 i h1⟩
theorem eFR.up52 {s nr : Nat} {J J1 : Nat → Nat → Int32} {L' L1' : Nat → Nat → Int64} (h : eFR s nr J J1 L' L1') (x : Int32) : eFR s nr J (j_up J1 0 52 x) L' L1' :=
  ⟨fun c h1 h2 h3 => by rw [j_up_cell _ h1]; exact h.1 c h1 h2 h3, fun c h1 i h2 => by rw [j_up_cell _ (by omega)]; exact h.2.1 c h1 i h2, fun i h1 => by rw [j_up_cell _ (by decide)]; exact h.2.2.1 i h1, fun q h1 h2 h3 h4 h5 => by rw [j_up_own, if_neg h5]; exact h.2.2.2.1 q h1 h2 h3 h4 h5, h.2.2.2.2.1, h.2.2.2.2.2.1, h.2.2.2.2.2.2⟩
theorem eFR.up36 {s nr j : Nat} {J J1 : Nat → Nat → Int32} {L' L1' : Nat → Nat → Int64} (h : eFR s nr J J1 L' L1') (hj : s ≤ j) (x : Int32) : eFR s nr J (j_up J1 36 j x) L' L1' :=
  ⟨fun c h1 h2 h3 => by rw [j_up_cell _ h2]; exact h.1 c h1 h2 h3, fun c h1 i h2 => by rw [j_up_cell _ (by omega)]; exact h.2.1 c h1 i h2, fun i h1 => by rw [j_up_own, if_neg (by omega)]; exact h.2.2.1 i h1, fun q h1 h2 h3 h4 h5 => by rw [j_up_cell _ (by decide)]; exact h.2.2.2.1 q h1 h2 h3 h4 h5, h.2.2.2.2.1, h.2.2.2.2.2.1, h.2.2.2.2.2.2⟩
theorem eFR.up24 {s nr j : Nat} {J J1 : Nat → Nat → Int32} {L' L1' : Nat → Nat → Int64} (h : eFR s nr J J1 L' L1') (hj : nr ≤ j) (x : Int32) : eFR s nr J (j_up J1 24 j x) L' L1' :=
  ⟨fun c h1 h2 h3 => by rw [j_up_cell _ (by omega)]; exact h.1 c h1 h2 h3, fun c h1 i h2 => by
    rw [j_up_app]
    by_cases z : 21 + c = 24
    · rw [if_pos z, if_neg (by omega), ← z]; exact h.2.1 c h1 i h2
    · rw [if_neg z]; exact h.2.1 c h1 i h2, fun i h1 => by rw [j_up_cell _ (by decide)]; exact h.2.2.1 i h1, fun q h1 h2 h3 h4 h5 => by rw [j_up_cell _ (by decide)]; exact h.2.2.2.1 q h1 h2 h3 h4 h5, h.2.2.2.2.1, h.2.2.2.2.2.1, h.2.2.2.2.2.2⟩
theorem eFR.upL35 {s nr j : Nat} {J J1 : Nat → Nat → Int32} {L' L1' : Nat → Nat → Int64} (h : eFR s nr J J1 L' L1') (hj : s ≤ j) (x : Int64) : eFR s nr J J1 L' (j_up L1' 35 j x) :=
  ⟨h.1, h.2.1, h.2.2.1, h.2.2.2.1, fun c h1 h2 => by rw [j_up_cell _ h2]; exact h.2.2.2.2.1 c h1 h2, fun i h1 => by rw [j_up_cell _ (by decide)]; exact h.2.2.2.2.2.1 i h1, fun i h1 => by rw [j_up_own, if_neg (by omega)]; exact h.2.2.2.2.2.2 i h1⟩
theorem eFR.adR {s nr j : Nat} {J J1 : Nat → Nat → Int32} {L' L1' : Nat → Nat → Int64} (h : eFR s nr J J1 L' L1') (hj : nr ≤ j) (a x y z : Int32) (v : Int64) : eFR s nr J (adR J1 j a x y z) L' (j_up L1' 25 j v) := by
  obtain ⟨c1, _, _, _, _, c2, c3, c4⟩ := adR_at (J := J1) j a x y z
  refine ⟨fun c h1 h2 h3 => by rw [c2 c h1 h3]; exact h.1 c h1 h2 h3, fun c h1 i h2 => by rw [c1 i (by omega) c h1]; exact h.2.1 c h1 i h2, fun i h1 => by rw [c2 36 (by decide) (by decide)]; exact h.2.2.1 i h1, fun q h1 h2 h3 h4 h5 => by rw [c3 q h4]; exact h.2.2.2.1 q h1 h2 h3 h4 h5, fun c h1 h2 => by rw [j_up_cell _ h1]; exact h.2.2.2.2.1 c h1 h2, fun i h1 => by rw [j_up_own, if_neg (by omega)]; exact h.2.2.2.2.2.1 i h1, fun i h1 => by rw [j_up_cell _ (by decide)]; exact h.2.2.2.2.2.2 i h1⟩
/-- a counter comes about -/
theorem pOk.push {g : Nat} (hg : g = 38 ∨ g = 49) {I J : Nat → Nat → Int32} {L L' : Nat → Nat → Int64} {now nc nr : Nat} (ok : pOk g T K P W U Q nm kd nb nl nt nu s cw rho now nc nr I L J L') (hs : s < 24) (hn : nr + 1 ≤ now) {w : List Nat} (hw : okW w) (hnew : ∀ i, i < s → cw i ≠ w) (op x y : Int32) : pOk g T K P W U Q nm kd nb nl nt nu (s + 1) (upW cw s w) (upN rho s nr) now nc (nr + 1) (j_up I 27 16 (nI (s + 1))) (j_up L 34 s (lgN (nC w))) (j_up (j_up (adR J nr op x y 0) 36 s (nI nr)) 0 52 (nI (s + 1))) (j_up (j_up L' 25 nr 0) 35 s (lgN (nR w))) := by
  obtain ⟨a1, a2, a3, a4, a5, a6, a7, a8, a9, a10, a11, a12, a13⟩ := ok
  have hT := a1.1
  have c1 : eFC g s nc I (j_up I 27 16 (nI (s + 1))) L (j_up L 34 s (lgN (nC w))) := ((eFC.refl (g := g) (s := s) (nc := nc) (I := I) (L := L)).up16 hg _).upL (Nat.le_refl _) _
  have c2 : eFR s nr J (j_up (j_up (adR J nr op x y 0) 36 s (nI nr)) 0 52 (nI (s + 1))) L' (j_up (j_up L' 25 nr 0) 35 s (lgN (nR w))) := ((((eFR.refl (s := s) (nr := nr) (J := J) (L' := L')).adR (Nat.le_refl _) op x y 0 0).up36 (Nat.le_refl _) _).up52 _).upL35 (Nat.le_refl _) _
  obtain ⟨_, _, _, _, _, _, r3, r4⟩ := adR_at (J := J) nr op x y 0
  have n36 : j_up (j_up (adR J nr op x y 0) 36 s (nI nr)) 0 52 (nI (s + 1)) 0 36 = nI (nr + 1) := by rw [j_up_own, if_neg (by decide), j_up_cell _ (by decide), r4]
  have eI : ∀ c, c ≠ 27 → c < 38 → j_up I 27 16 (nI (s + 1)) c = I c := fun c h1 h2 => c1.1 c h1 (Or.inl (by omega))
  refine ⟨a1.frame (c1.2.2.2.1 6 (by decide) (by decide) (by decide) (by decide)) (eI 28 (by decide) (by decide)) (eI 29 (by decide) (by decide)) (c1.2.2.2.2.1 30 (by decide)) (c2.1 18 (by decide) (by decide) (by decide)) (c2.1 19 (by decide) (by decide) (by decide)) (c2.2.2.2.2.1 20 (by decide) (by decide)), ?_, ?_, ?_, a5, a6, by omega, ?_, ?_, ?_, ?_, ?_, ?_⟩
  · unfold kwS at a2 ⊢
    rw [c1.2.2.2.2.1 35 (by decide), c1.2.2.2.2.1 36 (by decide), c1.2.2.2.2.1 37 (by decide)]
    exact a2
  · exact a3.frame (c1.2.2.2.1 14 (by decide) (by decide) (by decide) (by decide)) (c1.2.2.2.2.1 31 (by decide)) (eI 32 (by decide) (by decide)) (eI 33 (by decide) (by decide)) (c2.2.2.2.1 39 (by decide) (by decide) (by decide) (by decide) (by decide)) (c2.2.2.2.1 46 (by decide) (by decide) (by decide) (by decide) (by decide)) (c2.2.2.2.1 49 (by decide) (by decide) (by decide) (by decide) (by decide)) (c2.2.2.2.2.1 26 (by decide) (by decide)) (c2.2.2.2.2.1 28 (by decide) (by decide)) (c2.2.2.2.2.1 33 (by decide) (by decide))
  · refine ⟨by omega, by rw [j_up_own, if_pos rfl], by rw [j_up_own, if_pos rfl], fun i hi => ?_, fun q r hq hr e => ?_⟩
    · rcases Nat.lt_or_eq_of_le (show i ≤ s by omega) with z | z
      · obtain ⟨b1, b2, b3, b4, b5, b6⟩ := a4.2.2.2.1 i z
        unfold upW upN
        rw [if_neg (by omega), if_neg (by omega)]
        exact ⟨b1, (c1.2.2.2.2.2 i z).trans b2, (c2.2.2.2.2.2.2 i z).trans b3, (c2.2.2.1 i z).trans b4, b5, by rw [n36]; rw [a13] at b6; exact Int32.lt_of_lt_of_le b6 (nI_le (by omega) (by omega))⟩
      · subst z
        unfold upW upN
        rw [if_pos rfl, if_pos rfl]
        refine ⟨hw, by rw [j_up_own, if_pos rfl], by rw [j_up_own, if_pos rfl], ?_, by omega, by rw [n36]; exact nI_lt (by omega) (by omega)⟩
        rw [j_up_cell _ (by decide), j_up_own, if_pos rfl]
    · unfold upW at e
      by_cases z1 : q = s
      · by_cases z2 : r = s
        · omega
        · rw [if_pos z1, if_neg z2] at e
          exact absurd e.symm (hnew r (by omega))
      · by_cases z2 : r = s
        · rw [if_neg z1, if_pos z2] at e
          exact absurd e (hnew q (by omega))
        · rw [if_neg z1, if_neg z2] at e
          exact a4.2.2.2.2 q r (by omega) (by omega) e
  · rw [j_up_own, if_neg (by decide)]; exact a8
  · rw [j_up_own, if_neg (by decide), j_up_cell _ (by decide), r3 29 (by decide)]; exact a9
  · rw [j_up_own, if_neg (by decide)]; exact a10
  · rw [j_up_own, if_neg (by decide), j_up_cell _ (by decide), r3 28 (by decide)]; exact a11
  · rw [j_up_cell _ (by omega)]; exact a12
  · rw [j_up_own, if_neg (by decide), j_up_cell _ (by decide), r4]
/-- and goes -/
theorem eSt.pop {g : Nat} (hg : g = 38 ∨ g = 49) {I J : Nat → Nat → Int32} {L L' : Nat → Nat → Int64} {now nc nr now3 nc3 nr3 now4 nc4 nr4 : Nat} {I3 J3 I4 J4 : Nat → Nat → Int32} {L3 L3' L4 L4' : Nat → Nat → Int64} {w : List Nat} {op x y : Int32} (st : eSt g T s now nc nr I L J L' now3 nc3 nr3 I3 L3 J3 L3') (hn : nr3 + 1 + now ≤ nr + now3) (st4 : eSt g T (s + 1) now3 nc3 (nr3 + 1) (j_up I3 27 16 (nI (s + 1))) (j_up L3 34 s (lgN (nC w))) (j_up (j_up (adR J3 nr3 op x y 0) 36 s (nI nr3)) 0 52 (nI (s + 1))) (j_up (j_up L3' 25 nr3 0) 35 s (lgN (nR w))) now4 nc4 nr4 I4 L4 J4 L4') (z : Int32) : eSt g T s now nc nr I L J L' now4 nc4 nr4 (j_up I4 27 16 (nI s)) L4 (j_up (j_up J4 24 nr3 z) 0 52 (nI s)) L4' := by
  obtain ⟨a1, a2, a3, a4, a5, a6, a7, a8, a9, a10, a11, a12, a13, a14, a15⟩ := st
  obtain ⟨b1, b2, b3, b4, b5, b6, b7, b8, b9, b10, b11, b12, b13, b14, b15⟩ := st4
  have c1 := (((a1.up16 hg (nI (s + 1))).upL (Nat.le_refl _) (lgN (nC w))).trans b1 (by omega) a5).up16 hg (nI s)
  have c2 := ((((((a2.adR a6 op x y 0 0).up36 (Nat.le_refl _) (nI nr3)).up52 (nI (s + 1))).upL35 (Nat.le_refl _) (lgN (nR w))).trans b2 (by omega) (by omega)).up24 a6 z).up52 (nI s)
  refine ⟨c1, c2, by omega, b4, by omega, by omega, by omega, by omega, ?_, ?_, ?_, ?_, ?_, ?_, ?_⟩
  · rw [j_up_own, if_neg (by decide)]; exact b9
  · rw [j_up_own, if_neg (by decide)]; exact b10
  · rw [j_up_own, if_pos rfl]
  · rw [j_up_cell _ (by omega)]; exact b12
  · rw [j_up_own, if_pos rfl]
  · rw [j_up_own, if_neg (by decide), j_up_cell _ (by decide)]; exact b14
  · rw [j_up_own, if_neg (by decide), j_up_cell _ (by decide)]; exact b15
theorem eF.pop {g : Nat} (hg : g = 38 ∨ g = 49) {I J : Nat → Nat → Int32} {L L' : Nat → Nat → Int64} {now nc nr now3 nc3 nr3 m1 c1 m2 r2 : Nat} {I3 J3 I4 J4 : Nat → Nat → Int32} {L3 L3' L4 L4' : Nat → Nat → Int64} {w : List Nat} {op x y : Int32} (st : eSt g T s now nc nr I L J L' now3 nc3 nr3 I3 L3 J3 L3') (hn : nr3 + 1 + now ≤ nr + now3) (st4 : eF g T (s + 1) now3 nc3 (nr3 + 1) (j_up I3 27 16 (nI (s + 1))) (j_up L3 34 s (lgN (nC w))) (j_up (j_up (adR J3 nr3 op x y 0) 36 s (nI nr3)) 0 52 (nI (s + 1))) (j_up (j_up L3' 25 nr3 0) 35 s (lgN (nR w))) m1 c1 m2 r2 I4 L4 J4 L4') (z z1 z2 : Int32) : eF g T s now nc nr I L J L' m1 c1 m2 r2 (j_up I4 27 16 z1) L4 (j_up (j_up J4 24 nr3 z) 0 52 z2) L4' := by
  obtain ⟨a1, a2, a3, a4, a5, a6, a7, a8, a9, a10, a11, a12, a13, a14, a15⟩ := st
  obtain ⟨b1, b2, ⟨f, p, f1, f2, f3, f4, f5, f6⟩, b4, b5, b6, b7, b8, b9, b10, b11, b12, b13, b14⟩ := st4
  have c1 := (((a1.up16 hg (nI (s + 1))).upL (Nat.le_refl _) (lgN (nC w))).trans b1 (by omega) a5).up16 hg z1
  have c2 := ((((((a2.adR a6 op x y 0 0).up36 (Nat.le_refl _) (nI nr3)).up52 (nI (s + 1))).upL35 (Nat.le_refl _) (lgN (nR w))).trans b2 (by omega) (by omega)).up24 a6 z).up52 z2
  refine ⟨c1, c2, ⟨f, p, f1, f2, ?_, ?_, ?_, ?_⟩, b4, ?_, by omega, b7, ?_, by omega, b10, ?_, by omega, by omega, ?_⟩
  · rw [j_up_own, if_neg (by decide)]; exact f3
  · rw [j_up_own, if_neg (by decide)]; exact f4
  · rw [j_up_own, if_neg (by decide), j_up_cell _ (by decide)]; exact f5
  · rw [j_up_own, if_neg (by decide), j_up_cell _ (by decide)]; exact f6
  · rw [j_up_own, if_neg (by decide)]; exact b5
  · rw [j_up_cell _ (by omega)]; exact b8
  · rw [j_up_own, if_neg (by decide), j_up_cell _ (by decide)]; exact b11
  · rw [j_up_own, if_neg (by decide), j_up_cell _ (by decide)]; exact b14
theorem eSt.addC {g : Nat} (hg : g = 38 ∨ g = 49) {I J : Nat → Nat → Int32} {L L' : Nat → Nat → Int64} {now nc nr now' nc' nr' : Nat} {I1 J1 : Nat → Nat → Int32} {L1 L1' : Nat → Nat → Int64} (h : eSt g T s now nc nr I L J L' now' nc' nr' I1 L1 J1 L1') (h1 : nc' + 1 + now ≤ nc + now') (a b x y z : Int32) : eSt g T s now nc nr I L J L' now' (nc' + 1) nr' (adC g I1 nc' a b x y z) L1 J1 L1' := by
  obtain ⟨b1, b2, b3, b4, b5, b6, b7, b8, b9, b10, b11, b12, b13, b14, b15⟩ := h
  obtain ⟨c1, _, _, _, _, _, c2, c3, c4⟩ := adC_at (I := I1) g nc' a b x y z
  have r27 : adC g I1 nc' a b x y z 27 = I1 27 := c2 27 (by omega)
  exact ⟨⟨fun c q1 q2 => (c2 c q2).trans (b1.1 c q1 q2), fun q q1 => (c3 q q1).trans (b1.2.1 q q1), fun c q1 i q2 => (c1 i (by omega) c q1).trans (b1.2.2.1 c q1 i q2), fun q q1 q2 q3 q4 => by rw [r27]; exact b1.2.2.2.1 q q1 q2 q3 q4, b1.2.2.2.2.1, b1.2.2.2.2.2⟩, b2, b3, b4, by omega, b6, by omega, b8, by rw [r27]; exact b9, by rw [r27]; exact b10, by rw [r27]; exact b11, c4, b13, b14, b15⟩
/-- behind a fault -/
theorem se45_rf {e : Nat} {J : Nat → Nat → Int32} {L' : Nat → Nat → Int64} (h0 : J 0 29 ≠ 0) (l1 l2 l5 t : Int32) (l3 : Int64) (o6 o7 : Option Value) : jv (e + 3) 274 45 [some (.ref 0), some (.int l1), some (.int l2), some (.long l3), none, some (.int l5), o6, o7] [.int t] (shR, J, L', pR) = some (some (.int 0), (shR, J, L', pR)) := by
  rw [B274_45, jgo_some (d := e + 2) rfl (sum_rf h0 _ _ _)]
  dsimp only [Option.toList_some, Option.toList_none, List.cons_append, List.nil_append]
  rw [B274_53, jgo_some (d := e + 2) rfl (want_rf h0 _)]
  dsimp only [Option.toList_some, Option.toList_none, List.cons_append, List.nil_append]
  rw [B274_61, if_neg h0]
theorem se29_rf {e : Nat} {J : Nat → Nat → Int32} {L' : Nat → Nat → Int64} (h0 : J 0 29 ≠ 0) (l1 l2 t : Int32) (l3 : Int64) (o5 o6 o7 : Option Value) : jv (e + 3) 274 29 [some (.ref 0), some (.int l1), some (.int l2), some (.long l3), none, o5, o6, o7] [.int t] (shR, J, L', pR) = some (some (.int 0), (shR, J, L', pR)) := by
  rw [B274_29, jgo_some (d := e + 2) rfl (sum_rf h0 _ _ _)]
  dsimp only [Option.toList_some, Option.toList_none, List.cons_append, List.nil_append]
  rw [B274_37, jgo_some (d := e + 2) rfl (want_rf h0 _)]
  dsimp only [Option.toList_some, Option.toList_none, List.cons_append, List.nil_append]
  rw [se45_rf h0]
theorem se22_rf {e : Nat} {J : Nat → Nat → Int32} {L' : Nat → Nat → Int64} (h0 : J 0 29 ≠ 0) (l1 l2 : Int32) (t : Int64) (o3 o4 o5 o6 o7 : Option Value) : jv (e + 3) 274 22 [some (.ref 0), some (.int l1), some (.int l2), o3, o4, o5, o6, o7] [.long t] (shR, J, L', pR) = some (some (.int 0), (shR, J, L', pR)) := by
  rw [B274_22, jgo_some (d := e + 2) rfl (want_rf h0 _)]
  dsimp only [Option.toList_some, Option.toList_none, List.cons_append, List.nil_append]
  rw [se29_rf h0]
theorem se44_cf38 {d : Nat} {I : Nat → Nat → Int32} {L : Nat → Nat → Int64} (h0 : I 27 0 ≠ 0) (l1 l2 l5 t : Int32) (l3 : Int64) (o6 o7 o8 : Option Value) : jv (d + 4) 30 44 [some (.ref 27), some (.int l1), some (.int l2), some (.long l3), none, some (.int l5), o6, o7, o8] [.int t] (shC, I, L, pX pa pb (some 38) pw) = some (some (.int (-1)), (shC, I, L, pX pa pb (some 38) pw)) := by
  rw [B30_44_g38, jgo_some (d := d + 3) rfl (sum_cf38 h0 _ _ _ _ _ _)]
  dsimp only [Option.toList_some, Option.toList_none, List.cons_append, List.nil_append]
  rw [B30_52_g38, jgo_some (d := d + 3) rfl (expect_cf (d := d + 2) h0 _)]
  dsimp only [Option.toList_some, Option.toList_none, List.cons_append, List.nil_append]
  rw [B30_60_g38, if_neg h0, B30_81_g38, jgo_some (d := d + 3) rfl (fail_cf h0 _ _)]
  dsimp only [Option.toList_some, Option.toList_none, List.cons_append, List.nil_append]
  rw [B30_90_g38]
theorem se28_cf38 {d : Nat} {I : Nat → Nat → Int32} {L : Nat → Nat → Int64} (h0 : I 27 0 ≠ 0) (l1 l2 t : Int32) (l3 : Int64) (o5 o6 o7 o8 : Option Value) : jv (d + 4) 30 28 [some (.ref 27), some (.int l1), some (.int l2), some (.long l3), none, o5, o6, o7, o8] [.int t] (shC, I, L, pX pa pb (some 38) pw) = some (some (.int (-1)), (shC, I, L, pX pa pb (some 38) pw)) := by
  rw [B30_28_g38, jgo_some (d := d + 3) rfl (sum_cf38 h0 _ _ _ _ _ _)]
  dsimp only [Option.toList_some, Option.toList_none, List.cons_append, List.nil_append]
  rw [B30_36_g38, jgo_some (d := d + 3) rfl (expect_cf (d := d + 2) h0 _)]
  dsimp only [Option.toList_some, Option.toList_none, List.cons_append, List.nil_append]
  rw [se44_cf38 h0]
theorem se21_cf38 {d : Nat} {I : Nat → Nat → Int32} {L : Nat → Nat → Int64} (h0 : I 27 0 ≠ 0) (l1 l2 : Int32) (t : Int64) (o3 o4 o5 o6 o7 o8 : Option Value) : jv (d + 4) 30 21 [some (.ref 27), some (.int l1), some (.int l2), o3, o4, o5, o6, o7, o8] [.long t] (shC, I, L, pX pa pb (some 38) pw) = some (some (.int (-1)), (shC, I, L, pX pa pb (some 38) pw)) := by
  rw [B30_21_g38, jgo_some (d := d + 3) rfl (expect_cf (d := d + 2) h0 _)]
  dsimp only [Option.toList_some, Option.toList_none, List.cons_append, List.nil_append]
  rw [se28_cf38 h0]
/-- the body and what comes behind it -/
theorem body_sim38 {d e h i : Nat} {D D' : Int32} (hi : i < 3) (hs : s < 24) (Hb : ∀ (w' : List Nat) (r' : Nat) (I : Nat → Nat → Int32) (L : Nat → Nat → Int64) (J : Nat → Nat → Int32) (L' : Nat → Nat → Int64) (now nc nr : Nat), pOk 38 T K P W U Q nm kd nb nl nt nu (s + 1) (upW cw s w') (upN rho s r') now nc nr I L J L' → jW2 (jv (d + 6) 25 0 [some (.ref 27), some (.int (D + 1)), none, none, none, none, none] [] (shC, I, L, pX pa pb (some 38) pw)) (jv (e + 6) 270 0 [some (.ref 0), some (.int (D' + 1)), none, none] [] (shR, J, L', pR)) (eQ 38 T K P nl nt lam (s + 1) (upN rho s r') h true now nc nr I L J L' (pX pa pb (some 38) pw))) {I J : Nat → Nat → Int32} {L L' : Nat → Nat → Int64} {now nc nr : Nat} (ok : pOk 38 T K P W U Q nm kd nb nl nt nu s cw rho now nc nr I L J L') {now3 nc3 nr3 n1 k1 n2 k2 : Nat} {I3 J3 : Nat → Nat → Int32} {L3 L3' : Nat → Nat → Int64} (st : eSt 38 T s now nc nr I L J L' now3 nc3 nr3 I3 L3 J3 L3') (h29 : J3 0 29 = 0) (hn : nr3 + 1 + now ≤ nr + now3) (hcn : nc3 + 1 + now ≤ nc + now3) {w : List Nat} (hw : okW w) (hnew : ∀ i, i < s → cw i ≠ w) (ww : Nat) (w3 : ww + now < lam + now3) (p1 : pst 38 I3 J3 L3' nl nt lam h true ww s rho nc nc3 nr nr3 n1 k1) (p2 : pst 38 I3 J3 L3' nl nt lam h true ww s rho nc nc3 nr nr3 n2 k2) (t t' : Int32) : jW2 (jv (d + 7) 30 60 [some (.ref 27), some (.int D), some (.int (nI (9 + i))), some (.long (lgN (nC w))), none, some (.int (nI n1)), some (.int (nI n2)), none, none] [.int t] (shC, I3, L3, pX pa pb (some 38) pw)) (jv (e + 7) 274 61 [some (.ref 0), some (.int (nI i)), some (.int D'), some (.long (lgN (nR w))), none, some (.int (nI k1)), some (.int (nI k2)), none] [.int t'] (shR, J3, L3', pR)) (eQ 38 T K P nl nt lam s rho (h + 1) true now nc nr I L J L' (pX pa pb (some 38) pw)) := by
  have hg : 38 = 38 ∨ 38 = 49 := by decide
  have hT := ok.1.1
  have hnc := ok.2.2.2.2.2.1
  have hnr := ok.2.2.2.2.2.2.1
  obtain ⟨_, _, a3, a4, a5, a6, a7, a8, a9, a10, a11, a12, a13, a14, a15⟩ := id st
  have ok3 := eSt.ok hg ok st h29
  have okp := pOk.push hg ok3 hs (by omega) hw hnew (nI (8 + i)) (nI k1) (nI k2)
  obtain ⟨q1, q2, q3, q4, q5, q6, q7, q8⟩ := adR_at (J := J3) nr3 (nI (8 + i)) (nI k1) (nI k2) 0
  have r52 : adR J3 nr3 (nI (8 + i)) (nI k1) (nI k2) 0 0 52 = nI s := by rw [q7 52 (by decide)]; exact a13
  rw [B30_60_g38, if_pos a9, a11, if_pos (show nI s < (24 : Int32) from nI_lt (b := 24) (by omega) (by decide)), if_pos (j_in_nI (by omega) (by decide)), nI_clamp (by omega), show nI s + 1 = nI (s + 1) from nI_add s 1, B274_61, if_pos h29, show (8 : Int32) + nI i = nI (8 + i) from nI_add 8 i, jgo_some (d := e + 6) rfl (node_r (e := e + 6) (L' := L3') a15 (show nr3 < 1400 by omega) (nI (8 + i)) (nI k1) (nI k2) 0 0)]
  dsimp only [Option.toList_some, Option.toList_none, List.cons_append, List.nil_append]
  rw [B274_85, r52, if_pos (j_in_nI (by omega) (by decide)), if_pos (j_in_nI (by omega) (by decide)), nI_clamp (by omega), j_up_cell _ (show 0 ≠ 36 by decide), r52, show nI s + 1 = nI (s + 1) from nI_add s 1]
  refine jW2_go rfl rfl (Hb w nr3 _ _ _ _ _ _ _ okp) ?_
  rintro v S w' S' ⟨I4, L4, J4, L4', x, y, rfl, rfl, rfl, rfl, hh⟩
  dsimp only [Option.toList_some, Option.toList_none, List.cons_append, List.nil_append]
  -- behind a fault
  have ff : ∀ (m1 c1 m2 r2 : Nat) (I6 J6 : Nat → Nat → Int32) (L6 L6' : Nat → Nat → Int64) (t t' : Int32), eF 38 T s now nc nr I L J L' m1 c1 m2 r2 I6 L6 J6 L6' → jW2 (jv (d + 7) 30 130 [some (.ref 27), some (.int D), some (.int (nI (9 + i))), some (.long (lgN (nC w))), none, some (.int (nI n1)), some (.int (nI n2)), some (.int (nI s)), some (.int x)] [.int t] (shC, I6, L6, pX pa pb (some 38) pw)) (jv (e + 7) 274 148 [some (.ref 0), some (.int (nI i)), some (.int D'), some (.long (lgN (nR w))), none, some (.int (nI k1)), some (.int (nI k2)), some (.int (nI nr3))] [.int t'] (shR, J6, L6', pR)) (eQ 38 T K P nl nt lam s rho (h + 1) true now nc nr I L J L' (pX pa pb (some 38) pw)) := by
    intro m1 c1 m2 r2 I6 J6 L6 L6' t t' hf
    have q1 := hf.2.2.2.2.2.2.2.1
    have q2 := hf.2.2.2.2.2.2.1
    rw [B30_130_g38, B274_148]
    rcases Nat.lt_or_eq_of_le q2 with z | z
    · rw [jgo_some (d := d + 6) rfl (add_c38 q1 z _ _ _ _ _)]
      dsimp only [Option.toList_some, Option.toList_none, List.cons_append, List.nil_append]
      rw [B30_147_g38]
      exact jW2_some (eQ.f (eF.addC hg hf z _ _ _ _ _) _ _)
    · rw [jgo_some (d := d + 6) rfl (add_f38 (by rw [q1, z]) _ _ _ _ _)]
      dsimp only [Option.toList_some, Option.toList_none, List.cons_append, List.nil_append]
      rw [B30_147_g38]
      exact jW2_some (eQ.f hf _ _)
  rw [B30_116_g38, B274_131, if_pos (j_in_nI (show nr3 < 1400 by omega) (by decide)), nI_clamp (by omega), show (41 : Int32) = nI 41 from rfl]
  rcases hh with ⟨now4, nc4, nr4, n3, k3, lt4, st4, rfl, rfl, hh⟩ | ⟨m1, c1, m2, r2, hf⟩
  case inr =>
    have hf1 := eF.pop hg st hn hf y (nI s) (j_up J4 24 nr3 y 0 52 - 1)
    rw [jgo_some (d := d + 6) rfl (expect_cf (d := d + 5) hf1.f.1 _), jgo_some (d := e + 6) rfl (want_rf hf1.f.2 _)]
    dsimp only [Option.toList_some, Option.toList_none, List.cons_append, List.nil_append]
    exact ff _ _ _ _ _ _ _ _ _ _ hf1
  have sp := eSt.pop hg st hn st4 (nI k3)
  have j52 : j_up J4 24 nr3 (nI k3) 0 52 - 1 = nI s := by
    rw [j_up_cell _ (by decide), st4.2.2.2.2.2.2.2.2.2.2.2.2.1]; exact nI_prd
  have j29 : ∀ v : Int32, J4 0 29 = v → j_up (j_up J4 24 nr3 (nI k3)) 0 52 (nI s) 0 29 = v := fun v hv => by rw [j_up_own, if_neg (by decide), j_up_cell _ (by decide)]; exact hv
  have j30 : ∀ v : Int32, J4 0 30 = v → j_up (j_up J4 24 nr3 (nI k3)) 0 52 (nI s) 0 30 = v := fun v hv => by rw [j_up_own, if_neg (by decide), j_up_cell _ (by decide)]; exact hv
  obtain ⟨f1, f2, b3, b4, b5, b6, b7, b8, _⟩ := id st4
  rw [j52]
  rcases hh with ⟨h29', hp4⟩ | ⟨h40, h29', h30'⟩
  case inr =>
    obtain ⟨I6, m1, c1, m2, r2, ec2, er2, hf⟩ := want_bad hg ok.1 (Or.inl ⟨now4, nc4, nr4, sp, by omega, h40, j29 _ h29', j30 _ h30'⟩) (k := 41) (by decide) (by decide) (d + 5) (e + 5) pa pb (some 38) pw
    rw [jgo_some (d := d + 6) rfl ec2, show nI 41 = nI (kR 41) from rfl, jgo_some (d := e + 6) rfl er2]
    dsimp only [Option.toList_some, Option.toList_none, List.cons_append, List.nil_append]
    exact ff _ _ _ _ _ _ _ _ _ _ hf
  rcases want_ok hg ok.1 sp (j29 _ h29') (show nc4 ≤ 1201 by omega) (k := 41) (by decide) (by decide) (d + 5) (e + 5) pa pb (some 38) pw with ⟨q2', ec2, er2, lt5, st5, h295⟩ | ⟨q2', I6, J6, m1, c1, m2, r2, ec2, er2, hf⟩
  case inr =>
    rw [jgo_some (d := d + 6) rfl ec2, show nI 41 = nI (kR 41) from rfl, jgo_some (d := e + 6) rfl er2]
    dsimp only [Option.toList_some, Option.toList_none, List.cons_append, List.nil_append]
    exact ff _ _ _ _ _ _ _ _ _ _ hf
  rw [jgo_some (d := d + 6) rfl ec2, show nI 41 = nI (kR 41) from rfl, jgo_some (d := e + 6) rfl er2]
  dsimp only [Option.toList_some, Option.toList_none, List.cons_append, List.nil_append]
  rw [B30_130_g38, B274_148]
  obtain ⟨_, _, e3, e4, e5, e6, e7, e8, e9, e10, e11, e12, e13, e14, e15⟩ := id st5
  rw [jgo_some (d := d + 6) rfl (add_c38 (d := d + 6) e12 (show nc4 < 1201 by omega) _ _ _ _ _)]
  dsimp only [Option.toList_some, Option.toList_none, List.cons_append, List.nil_append]
  rw [B30_147_g38]
  refine jW2_some (eQ.ok (now' := now4 + 1) (nc' := nc4 + 1) (nr' := nr4) (by omega) (eSt.addC hg st5 (by omega) _ _ _ _ _) h295 ?_)
  -- the node means the same in both
  intro C R V a1 a2 a3'
  obtain ⟨z1, y1, y2, y3, y4, y5, _⟩ := adC_at (I := j_up (j_up I4 27 16 (nI s)) 27 7 (nI (now4 + 1))) 38 nc4 (nI (9 + i)) (nI s) (nI n1) (nI n2) (nI n3)
  have cc : ∀ c, c < 5 → ∀ j, nc ≤ j → j < nc4 → C c j = I4 (38 + 1 + c) j := fun c hc j j1 j2 => by
    rw [a1 c hc j j1 (by omega), z1 j (by omega) c hc, j_up_cell _ (by omega), j_up_cell _ (by omega)]
  have rr : ∀ c, c < 4 → ∀ j, nr ≤ j → j < nr4 → j ≠ nr3 → R c j = J4 (21 + c) j := fun c hc j j1 j2 j3 => by
    rw [a2 c hc j j1 j2, j_up_cell _ (by omega), j_up_cell _ (by omega), j_up_app]
    by_cases z : 21 + c = 24
    · rw [if_pos z, if_neg j3, ← z]
    · rw [if_neg z]
  have r3 : R 3 nr3 = nI k3 := by
    rw [a2 3 (by decide) nr3 a6 (by omega), j_up_cell _ (by decide), j_up_cell _ (by decide), j_up_own, if_pos rfl]
  have rl : ∀ c, c < 3 → R c nr3 = adR J3 nr3 (nI (8 + i)) (nI k1) (nI k2) 0 (21 + c) nr3 := fun c hc => by
    rw [a2 c (by omega) nr3 a6 (by omega), j_up_cell _ (by omega), j_up_cell _ (by omega), j_up_cell _ (by omega), f2.2.1 c (by omega) nr3 (by omega), j_up_cell _ (by omega), j_up_cell _ (by omega)]
  have sub : ∀ n k, pst 38 I3 J3 L3' nl nt lam h true ww s rho nc nc3 nr nr3 n k → rel C R V nl nt lam h true (lam + (now4 - now) - 1) s rho n k := fun n k p => by
    refine rel_mono (Nat.le_refl _) (by omega) (p C R V (fun c hc j j1 j2 => ?_) (fun c hc j j1 j2 => ?_) (fun j j1 j2 => ?_))
    · rw [cc c hc j j1 (by omega), f1.2.2.1 c hc j j2, j_up_cell _ (by omega)]
    · rw [rr c hc j j1 (by omega) (by omega), f2.2.1 c hc j (by omega), j_up_cell _ (by omega), j_up_cell _ (by omega), q1 j (by omega) c hc]
    · rw [a3' j j1 (by omega), f2.2.2.2.2.2.1 j (by omega), j_up_cell _ (by decide), j_up_own, if_neg (by omega)]
  have sub3 : rel C R V nl nt lam h true (lam + (now4 - now) - 1) (s + 1) (upN rho s nr3) n3 k3 := by
    refine rel_mono (Nat.le_refl _) (by omega) (hp4 C R V (fun c hc j j1 j2 => cc c hc j (by omega) j2) (fun c hc j j1 j2 => rr c hc j (by omega) j2 (by omega)) (fun j j1 j2 => a3' j (by omega) j2))
  refine ⟨by omega, by omega, Or.inr ⟨lam + (now4 - now), by omega, Or.inl ⟨rfl, Or.inr (Or.inr (Or.inr (Or.inr (Or.inr (Or.inr (Or.inr (Or.inr ⟨i, n1, k1, n2, k2, n3, k3, lam + (now4 - now) - 1, hi, ?_, (rl 0 (by decide)).trans q2, ?_, hs, by omega, ?_, (rl 1 (by decide)).trans q3, sub n1 k1 p1, ?_, (rl 2 (by decide)).trans q4, sub n2 k2 p2, ?_, r3, sub3, fun j hj z => ?_⟩)))))))⟩⟩⟩
  · exact (a1 0 (by decide) nc4 (by omega) (by omega)).trans y1
  · exact (a1 4 (by decide) nc4 (by omega) (by omega)).trans y2
  · exact (a1 1 (by decide) nc4 (by omega) (by omega)).trans y3
  · exact (a1 2 (by decide) nc4 (by omega) (by omega)).trans y4
  · exact (a1 3 (by decide) nc4 (by omega) (by omega)).trans y5
  · have z6 := (ok3.2.2.2.1.2.2.2.1 j hj).2.2.2.2.2
    rw [a15, z] at z6
    exact absurd z6 (nI_nlt (Nat.le_refl _) (by omega))
theorem series_sim38 {d e h i : Nat} {D D' : Int32} (hi : i < 3) (hs : s < 24) (Hs : ∀ (I : Nat → Nat → Int32) (L : Nat → Nat → Int64) (J : Nat → Nat → Int32) (L' : Nat → Nat → Int64) (now nc nr : Nat), pOk 38 T K P W U Q nm kd nb nl nt nu s cw rho now nc nr I L J L' → jW2 (jv (d + 6) 25 0 [some (.ref 27), some (.int (D + 1)), none, none, none, none, none] [] (shC, I, L, pX pa pb (some 38) pw)) (jv (e + 6) 270 0 [some (.ref 0), some (.int (D' + 1)), none, none] [] (shR, J, L', pR)) (eQ 38 T K P nl nt lam s rho h true now nc nr I L J L' (pX pa pb (some 38) pw))) (Hb : ∀ (w' : List Nat) (r' : Nat) (I : Nat → Nat → Int32) (L : Nat → Nat → Int64) (J : Nat → Nat → Int32) (L' : Nat → Nat → Int64) (now nc nr : Nat), pOk 38 T K P W U Q nm kd nb nl nt nu (s + 1) (upW cw s w') (upN rho s r') now nc nr I L J L' → jW2 (jv (d + 6) 25 0 [some (.ref 27), some (.int (D + 1)), none, none, none, none, none] [] (shC, I, L, pX pa pb (some 38) pw)) (jv (e + 6) 270 0 [some (.ref 0), some (.int (D' + 1)), none, none] [] (shR, J, L', pR)) (eQ 38 T K P nl nt lam (s + 1) (upN rho s r') h true now nc nr I L J L' (pX pa pb (some 38) pw))) {I J : Nat → Nat → Int32} {L L' : Nat → Nat → Int64} {now nc nr : Nat} (ok : pOk 38 T K P W U Q nm kd nb nl nt nu s cw rho now nc nr I L J L') (hK : now < T) : jW2 (jv (d + 7) 30 0 [some (.ref 27), some (.int D), some (.int (nI (9 + i))), none, none, none, none, none, none] [] (shC, I, L, pX pa pb (some 38) pw)) (jv (e + 7) 274 0 [some (.ref 0), some (.int (nI i)), some (.int D'), none, none, none, none, none] [] (shR, j_up J 0 28 (nI (now + 1)), L', pR)) (eQ 38 T K P nl nt lam s rho (h + 1) true now nc nr I L J L' (pX pa pb (some 38) pw)) := by
  have hg : 38 = 38 ∨ 38 = 49 := by decide
  obtain ⟨tk, kw, hN, hC, a5, a6, a7, a8, a9, a10, a11, a12, a13⟩ := id ok
  have hT := ok.1.1
  have st1 := eSt.adv hg ok.st hK
  have h291 : j_up J 0 28 (nI (now + 1)) 0 29 = 0 := by rw [j_up_own, if_neg (by decide)]; exact a9
  rw [B30_0_g38, B274_0, a10, show nI now + 1 = nI (now + 1) from nI_add now 1]
  rcases want_ok hg ok.1 st1 h291 (show nc ≤ 1201 by omega) (k := 40) (by decide) (by decide) (d + 5) (e + 5) pa pb (some 38) pw with ⟨q, ec, er, lt, st2, h292⟩ | ⟨q, I2, J2, n1, c1, n2, r2, ec, er, hf⟩
  case inr =>
    rw [show (40 : Int32) = nI 40 from rfl, jgo_some (d := d + 6) rfl ec, show nI 40 = nI (kR 40) from rfl, jgo_some (d := e + 6) rfl er]
    dsimp only [Option.toList_some, Option.toList_none, List.cons_append, List.nil_append]
    rw [B30_16_g38, jgo_some (d := d + 6) rfl (name_cf (d := d + 5) hf.f.1 _ _), B274_6, if_neg hf.f.2]
    dsimp only [Option.toList_some, Option.toList_none, List.cons_append, List.nil_append]
    rw [se21_cf38 (d := d + 3) hf.f.1, se22_rf (e := e + 4) hf.f.2]
    exact jW2_some (eQ.f hf _ _)
  rw [show (40 : Int32) = nI 40 from rfl, jgo_some (d := d + 6) rfl ec, show nI 40 = nI (kR 40) from rfl, jgo_some (d := e + 6) rfl er]
  dsimp only [Option.toList_some, Option.toList_none, List.cons_append, List.nil_append]
  rw [B30_16_g38, B274_6, if_pos h292]
  have ok2 := eSt.ok hg ok st2 h292
  obtain ⟨nc1', nc2', nc3'⟩ := name_c (d + 4) (pa := pa) (pb := pb) (pu := some 38) (pw := pw) ok2 none none
  obtain ⟨nr1', nr2', nr3'⟩ := name_r (e + 5) ok2 none none none none
  have nof : ∀ f, 1 ≤ f ∧ f ≤ 6 → jv (d + 6) 19 0 [some (.ref 27), none, none] [] (shC, j_up (j_up I 27 7 (nI (now + 1))) 27 7 (nI (now + 1 + 1)), L, pX pa pb (some 38) pw) = some (some (.long 0), (shC, flC (j_up (j_up I 27 7 (nI (now + 1))) 27 7 (nI (now + 1 + 1))) f (P (now + 1 + 1)), L, pX pa pb (some 38) pw)) → jv (e + 6) 263 0 [some (.ref 0), none, none, none, none] [] (shR, j_up (j_up J 0 28 (nI (now + 1))) 0 28 (nI (now + 1 + 1)), L', pR) = some (some (.long 0), (shR, flR (j_up (j_up J 0 28 (nI (now + 1))) 0 28 (nI (now + 1 + 1))) f (P (now + 1 + 1)), L', pR)) → jW2 (jgo jTT jMM (d + 7) 19 [.ref 27] (shC, j_up (j_up I 27 7 (nI (now + 1))) 27 7 (nI (now + 1 + 1)), L, pX pa pb (some 38) pw) (fun v S => jv (d + 7) 30 21 [some (.ref 27), some (.int D), some (.int (nI (9 + i))), none, none, none, none, none, none] (v.toList ++ []) S)) (jgo jTT jMM (e + 7) 263 [.ref 0] (shR, j_up (j_up J 0 28 (nI (now + 1))) 0 28 (nI (now + 1 + 1)), L', pR) (fun v S => jv (e + 7) 274 18 [some (.ref 0), some (.int (nI i)), some (.int D'), none, none, none, none, none] (v.toList ++ []) S)) (eQ 38 T K P nl nt lam s rho (h + 1) true now nc nr I L J L' (pX pa pb (some 38) pw)) := by
    intro f hf ec er
    have hf := eSt.fl hg st2 (f := f) (p := P (now + 1 + 1)) hf (by omega)
    rw [jgo_some (d := d + 6) rfl ec, jgo_some (d := e + 6) rfl er]
    dsimp only [Option.toList_some, Option.toList_none, List.cons_append, List.nil_append]
    rw [B274_18, se21_cf38 (d := d + 3) hf.f.1, se22_rf (e := e + 4) hf.f.2]
    exact jW2_some (eQ.f hf _ _)
  by_cases q2 : K (now + 1 + 1) = 97
  case neg => exact nof 2 (by decide) (nc1' q2) (nr1' q2)
  by_cases q3 : hadW Q nm s cw (W (now + 1 + 1))
  case pos => exact nof 4 (by decide) (nc2' q2 q3) (nr2' q2 q3)
  clear nof
  rw [jgo_some (d := d + 6) rfl (nc3' q2 q3), jgo_some (d := e + 6) rfl (nr3' q2 q3)]
  dsimp only [Option.toList_some, Option.toList_none, List.cons_append, List.nil_append]
  rw [B274_18, B30_21_g38, B274_22]
  have hw : okW (W (now + 1 + 1)) := (tk.2.2.2.2.2.1 (now + 1 + 1) (tk.lt st2.2.2.2.1 q2 (by decide)) q2).1
  have hnew : ∀ i, i < s → cw i ≠ W (now + 1 + 1) := fun i hi z => q3 (Or.inr (Or.inr (Or.inr (Or.inr ⟨i, hi, z⟩))))
  have st3 := eSt.adv hg st2 (tk.lt st2.2.2.2.1 q2 (by decide))
  have h293 : j_up (j_up (j_up J 0 28 (nI (now + 1))) 0 28 (nI (now + 1 + 1))) 0 28 (nI (now + 1 + 1 + 1)) 0 29 = 0 := by rw [j_up_own, if_neg (by decide)]; exact h292
  revert st3 h293
  generalize j_up (j_up (j_up I 27 7 (nI (now + 1))) 27 7 (nI (now + 1 + 1))) 27 7 (nI (now + 1 + 1 + 1)) = Ib
  generalize j_up (j_up (j_up J 0 28 (nI (now + 1))) 0 28 (nI (now + 1 + 1))) 0 28 (nI (now + 1 + 1 + 1)) = Jb
  revert hw hnew
  generalize W (now + 1 + 1) = wd
  intro hw hnew st3 h293
  rcases want_ok hg ok.1 st3 h293 (show nc ≤ 1201 by omega) (k := 44) (by decide) (by decide) (d + 5) (e + 5) pa pb (some 38) pw with ⟨q, ec, er, lt, st4, h294⟩ | ⟨q, I2, J2, n1, c1, n2, r2, ec, er, hf⟩
  case inr =>
    rw [show (44 : Int32) = nI 44 from rfl, jgo_some (d := d + 6) rfl ec, show nI 44 = nI (kR 44) from rfl, jgo_some (d := e + 6) rfl er]
    dsimp only [Option.toList_some, Option.toList_none, List.cons_append, List.nil_append]
    rw [se28_cf38 (d := d + 3) hf.f.1, se29_rf (e := e + 4) hf.f.2]
    exact jW2_some (eQ.f hf _ _)
  rw [show (44 : Int32) = nI 44 from rfl, jgo_some (d := d + 6) rfl ec, show nI 44 = nI (kR 44) from rfl, jgo_some (d := e + 6) rfl er]
  dsimp only [Option.toList_some, Option.toList_none, List.cons_append, List.nil_append]
  rw [B30_28_g38, B274_29]
  have ok4 := eSt.ok hg ok st4 h294
  refine jW2_go rfl rfl (Hs _ _ _ _ _ _ _ ok4) ?_
  intro v S w S' hq
  obtain ⟨I5, L5, J5, L5', x, y, rfl, rfl, rfl, rfl, vc5, vr5, I6, J6, ec5, er5, hw5⟩ := eQ.w (d := d + 5) (e := e + 5) hg ok st4 hq (k := 44) (by decide) (by decide) (by decide)
  dsimp only [Option.toList_some, Option.toList_none, List.cons_append, List.nil_append]
  rw [B30_36_g38, B274_37, show (44 : Int32) = nI 44 from rfl, jgo_some (d := d + 6) rfl ec5, show nI 44 = nI (kR 44) from rfl, jgo_some (d := e + 6) rfl er5]
  dsimp only [Option.toList_some, Option.toList_none, List.cons_append, List.nil_append]
  rcases hw5 with ⟨now5, nc5, nr5, n1, k1, rfl, rfl, lt5, gc5, gr5, hc5, hr5, st5, fc5, fr5, h295, p5, v5⟩ | ⟨m1, c1, m2, r2, v0, hf⟩
  case inr =>
    rw [se44_cf38 (d := d + 3) hf.f.1, se45_rf (e := e + 4) hf.f.2]
    exact jW2_some (eQ.f hf _ _)
  rw [B30_44_g38, B274_45]
  have ok5 := eSt.ok hg ok st5 h295
  refine jW2_go rfl rfl (Hs _ _ _ _ _ _ _ ok5) ?_
  intro v S w S' hq
  obtain ⟨I7, L7, J7, L7', x, y, rfl, rfl, rfl, rfl, vc7, vr7, I8, J8, ec7, er7, hw7⟩ := eQ.w (d := d + 5) (e := e + 5) hg ok st5 hq (k := 44) (by decide) (by decide) (by decide)
  dsimp only [Option.toList_some, Option.toList_none, List.cons_append, List.nil_append]
  rw [B30_52_g38, B274_53, show (44 : Int32) = nI 44 from rfl, jgo_some (d := d + 6) rfl ec7, show nI 44 = nI (kR 44) from rfl, jgo_some (d := e + 6) rfl er7]
  dsimp only [Option.toList_some, Option.toList_none, List.cons_append, List.nil_append]
  rcases hw7 with ⟨now7, nc7, nr7, n2, k2, rfl, rfl, lt7, gc7, gr7, hc7, hr7, st7, fc7, fr7, h297, p7, v7⟩ | ⟨m1, c1, m2, r2, v0, hf⟩
  case inr =>
    rw [B30_60_g38, if_neg hf.f.1, B30_81_g38, jgo_some (d := d + 6) rfl (fail_cf hf.f.1 _ _), B274_61, if_neg hf.f.2]
    dsimp only [Option.toList_some, Option.toList_none, List.cons_append, List.nil_append]
    rw [B30_90_g38]
    exact jW2_some (eQ.f hf _ _)
  have s7 := st7.2.2.2.2.2.2.1
  have s8 := st7.2.2.2.2.2.2.2.1
  have s5 := st5.2.2.2.2.2.2.1
  have s6 := st5.2.2.2.2.2.2.2.1
  have p5' := p5.later (h2 := h) (w2 := lam + (now7 - now - 2)) (Nat.le_refl _) (by omega) fc7 fr7 (Nat.le_refl _) (Nat.le_refl _)
  have p7' : pst 38 I8 J8 L7' nl nt lam h true (lam + (now7 - now - 2)) s rho nc5 nc7 nr5 nr7 n2 k2 := p7.eqs (Nat.le_refl _) (by omega) (fun _ _ => rfl) (fun _ _ => rfl) rfl
  exact body_sim38 hi hs Hb ok st7 h297 (by omega) (by omega) hw hnew (lam + (now7 - now - 2)) (by omega) (p5'.wide (by omega) (by omega) (by omega) (by omega)) (p7'.wide (by omega) (by omega) (by omega) (by omega)) _ _
theorem se44_cf49 {d : Nat} {I : Nat → Nat → Int32} {L : Nat → Nat → Int64} (h0 : I 27 0 ≠ 0) (l1 l2 l5 t : Int32) (l3 : Int64) (o6 o7 o8 : Option Value) : jv (d + 4) 30 44 [some (.ref 27), some (.int l1), some (.int l2), some (.long l3), none, some (.int l5), o6, o7, o8] [.int t] (shC, I, L, pX pa pb (some 49) pw) = some (some (.int (-1)), (shC, I, L, pX pa pb (some 49) pw)) := by
  rw [B30_44_g49, jgo_some (d := d + 3) rfl (sum_cf49 h0 _ _ _ _ _ _)]
  dsimp only [Option.toList_some, Option.toList_none, List.cons_append, List.nil_append]
  rw [B30_52_g49, jgo_some (d := d + 3) rfl (expect_cf (d := d + 2) h0 _)]
  dsimp only [Option.toList_some, Option.toList_none, List.cons_append, List.nil_append]
  rw [B30_60_g49, if_neg h0, B30_81_g49, jgo_some (d := d + 3) rfl (fail_cf h0 _ _)]
  dsimp only [Option.toList_some, Option.toList_none, List.cons_append, List.nil_append]
  rw [B30_90_g49]
theorem se28_cf49 {d : Nat} {I : Nat → Nat → Int32} {L : Nat → Nat → Int64} (h0 : I 27 0 ≠ 0) (l1 l2 t : Int32) (l3 : Int64) (o5 o6 o7 o8 : Option Value) : jv (d + 4) 30 28 [some (.ref 27), some (.int l1), some (.int l2), some (.long l3), none, o5, o6, o7, o8] [.int t] (shC, I, L, pX pa pb (some 49) pw) = some (some (.int (-1)), (shC, I, L, pX pa pb (some 49) pw)) := by
  rw [B30_28_g49, jgo_some (d := d + 3) rfl (sum_cf49 h0 _ _ _ _ _ _)]
  dsimp only [Option.toList_some, Option.toList_none, List.cons_append, List.nil_append]
  rw [B30_36_g49, jgo_some (d := d + 3) rfl (expect_cf (d := d + 2) h0 _)]
  dsimp only [Option.toList_some, Option.toList_none, List.cons_append, List.nil_append]
  rw [se44_cf49 h0]
theorem se21_cf49 {d : Nat} {I : Nat → Nat → Int32} {L : Nat → Nat → Int64} (h0 : I 27 0 ≠ 0) (l1 l2 : Int32) (t : Int64) (o3 o4 o5 o6 o7 o8 : Option Value) : jv (d + 4) 30 21 [some (.ref 27), some (.int l1), some (.int l2), o3, o4, o5, o6, o7, o8] [.long t] (shC, I, L, pX pa pb (some 49) pw) = some (some (.int (-1)), (shC, I, L, pX pa pb (some 49) pw)) := by
  rw [B30_21_g49, jgo_some (d := d + 3) rfl (expect_cf (d := d + 2) h0 _)]
  dsimp only [Option.toList_some, Option.toList_none, List.cons_append, List.nil_append]
  rw [se28_cf49 h0]
/-- the body and what comes behind it -/
theorem body_sim49 {d e h i : Nat} {D D' : Int32} (hi : i < 3) (hs : s < 24) (Hb : ∀ (w' : List Nat) (r' : Nat) (I : Nat → Nat → Int32) (L : Nat → Nat → Int64) (J : Nat → Nat → Int32) (L' : Nat → Nat → Int64) (now nc nr : Nat), pOk 49 T K P W U Q nm kd nb nl nt nu (s + 1) (upW cw s w') (upN rho s r') now nc nr I L J L' → jW2 (jv (d + 6) 25 0 [some (.ref 27), some (.int (D + 1)), none, none, none, none, none] [] (shC, I, L, pX pa pb (some 49) pw)) (jv (e + 6) 270 0 [some (.ref 0), some (.int (D' + 1)), none, none] [] (shR, J, L', pR)) (eQ 49 T K P nl nt lam (s + 1) (upN rho s r') h true now nc nr I L J L' (pX pa pb (some 49) pw))) {I J : Nat → Nat → Int32} {L L' : Nat → Nat → Int64} {now nc nr : Nat} (ok : pOk 49 T K P W U Q nm kd nb nl nt nu s cw rho now nc nr I L J L') {now3 nc3 nr3 n1 k1 n2 k2 : Nat} {I3 J3 : Nat → Nat → Int32} {L3 L3' : Nat → Nat → Int64} (st : eSt 49 T s now nc nr I L J L' now3 nc3 nr3 I3 L3 J3 L3') (h29 : J3 0 29 = 0) (hn : nr3 + 1 + now ≤ nr + now3) (hcn : nc3 + 1 + now ≤ nc + now3) {w : List Nat} (hw : okW w) (hnew : ∀ i, i < s → cw i ≠ w) (ww : Nat) (w3 : ww + now < lam + now3) (p1 : pst 49 I3 J3 L3' nl nt lam h true ww s rho nc nc3 nr nr3 n1 k1) (p2 : pst 49 I3 J3 L3' nl nt lam h true ww s rho nc nc3 nr nr3 n2 k2) (t t' : Int32) : jW2 (jv (d + 7) 30 60 [some (.ref 27), some (.int D), some (.int (nI (9 + i))), some (.long (lgN (nC w))), none, some (.int (nI n1)), some (.int (nI n2)), none, none] [.int t] (shC, I3, L3, pX pa pb (some 49) pw)) (jv (e + 7) 274 61 [some (.ref 0), some (.int (nI i)), some (.int D'), some (.long (lgN (nR w))), none, some (.int (nI k1)), some (.int (nI k2)), none] [.int t'] (shR, J3, L3', pR)) (eQ 49 T K P nl nt lam s rho (h + 1) true now nc nr I L J L' (pX pa pb (some 49) pw)) := by
  have hg : 49 = 38 ∨ 49 = 49 := by decide
  have hT := ok.1.1
  have hnc := ok.2.2.2.2.2.1
  have hnr := ok.2.2.2.2.2.2.1
  obtain ⟨_, _, a3, a4, a5, a6, a7, a8, a9, a10, a11, a12, a13, a14, a15⟩ := id st
  have ok3 := eSt.ok hg ok st h29
  have okp := pOk.push hg ok3 hs (by omega) hw hnew (nI (8 + i)) (nI k1) (nI k2)
  obtain ⟨q1, q2, q3, q4, q5, q6, q7, q8⟩ := adR_at (J := J3) nr3 (nI (8 + i)) (nI k1) (nI k2) 0
  have r52 : adR J3 nr3 (nI (8 + i)) (nI k1) (nI k2) 0 0 52 = nI s := by rw [q7 52 (by decide)]; exact a13
  rw [B30_60_g49, if_pos a9, a11, if_pos (show nI s < (24 : Int32) from nI_lt (b := 24) (by omega) (by decide)), if_pos (j_in_nI (by omega) (by decide)), nI_clamp (by omega), show nI s + 1 = nI (s + 1) from nI_add s 1, B274_61, if_pos h29, show (8 : Int32) + nI i = nI (8 + i) from nI_add 8 i, jgo_some (d := e + 6) rfl (node_r (e := e + 6) (L' := L3') a15 (show nr3 < 1400 by omega) (nI (8 + i)) (nI k1) (nI k2) 0 0)]
  dsimp only [Option.toList_some, Option.toList_none, List.cons_append, List.nil_append]
  rw [B274_85, r52, if_pos (j_in_nI (by omega) (by decide)), if_pos (j_in_nI (by omega) (by decide)), nI_clamp (by omega), j_up_cell _ (show 0 ≠ 36 by decide), r52, show nI s + 1 = nI (s + 1) from nI_add s 1]
  refine jW2_go rfl rfl (Hb w nr3 _ _ _ _ _ _ _ okp) ?_
  rintro v S w' S' ⟨I4, L4, J4, L4', x, y, rfl, rfl, rfl, rfl, hh⟩
  dsimp only [Option.toList_some, Option.toList_none, List.cons_append, List.nil_append]
  -- behind a fault
  have ff : ∀ (m1 c1 m2 r2 : Nat) (I6 J6 : Nat → Nat → Int32) (L6 L6' : Nat → Nat → Int64) (t t' : Int32), eF 49 T s now nc nr I L J L' m1 c1 m2 r2 I6 L6 J6 L6' → jW2 (jv (d + 7) 30 130 [some (.ref 27), some (.int D), some (.int (nI (9 + i))), some (.long (lgN (nC w))), none, some (.int (nI n1)), some (.int (nI n2)), some (.int (nI s)), some (.int x)] [.int t] (shC, I6, L6, pX pa pb (some 49) pw)) (jv (e + 7) 274 148 [some (.ref 0), some (.int (nI i)), some (.int D'), some (.long (lgN (nR w))), none, some (.int (nI k1)), some (.int (nI k2)), some (.int (nI nr3))] [.int t'] (shR, J6, L6', pR)) (eQ 49 T K P nl nt lam s rho (h + 1) true now nc nr I L J L' (pX pa pb (some 49) pw)) := by
    intro m1 c1 m2 r2 I6 J6 L6 L6' t t' hf
    have q1 := hf.2.2.2.2.2.2.2.1
    have q2 := hf.2.2.2.2.2.2.1
    rw [B30_130_g49, B274_148]
    rcases Nat.lt_or_eq_of_le q2 with z | z
    · rw [jgo_some (d := d + 6) rfl (add_c49 q1 z _ _ _ _ _)]
      dsimp only [Option.toList_some, Option.toList_none, List.cons_append, List.nil_append]
      rw [B30_147_g49]
      exact jW2_some (eQ.f (eF.addC hg hf z _ _ _ _ _) _ _)
    · rw [jgo_some (d := d + 6) rfl (add_f49 (by rw [q1, z]) _ _ _ _ _)]
      dsimp only [Option.toList_some, Option.toList_none, List.cons_append, List.nil_append]
      rw [B30_147_g49]
      exact jW2_some (eQ.f hf _ _)
  rw [B30_116_g49, B274_131, if_pos (j_in_nI (show nr3 < 1400 by omega) (by decide)), nI_clamp (by omega), show (41 : Int32) = nI 41 from rfl]
  rcases hh with ⟨now4, nc4, nr4, n3, k3, lt4, st4, rfl, rfl, hh⟩ | ⟨m1, c1, m2, r2, hf⟩
  case inr =>
    have hf1 := eF.pop hg st hn hf y (nI s) (j_up J4 24 nr3 y 0 52 - 1)
    rw [jgo_some (d := d + 6) rfl (expect_cf (d := d + 5) hf1.f.1 _), jgo_some (d := e + 6) rfl (want_rf hf1.f.2 _)]
    dsimp only [Option.toList_some, Option.toList_none, List.cons_append, List.nil_append]
    exact ff _ _ _ _ _ _ _ _ _ _ hf1
  have sp := eSt.pop hg st hn st4 (nI k3)
  have j52 : j_up J4 24 nr3 (nI k3) 0 52 - 1 = nI s := by
    rw [j_up_cell _ (by decide), st4.2.2.2.2.2.2.2.2.2.2.2.2.1]; exact nI_prd
  have j29 : ∀ v : Int32, J4 0 29 = v → j_up (j_up J4 24 nr3 (nI k3)) 0 52 (nI s) 0 29 = v := fun v hv => by rw [j_up_own, if_neg (by decide), j_up_cell _ (by decide)]; exact hv
  have j30 : ∀ v : Int32, J4 0 30 = v → j_up (j_up J4 24 nr3 (nI k3)) 0 52 (nI s) 0 30 = v := fun v hv => by rw [j_up_own, if_neg (by decide), j_up_cell _ (by decide)]; exact hv
  obtain ⟨f1, f2, b3, b4, b5, b6, b7, b8, _⟩ := id st4
  rw [j52]
  rcases hh with ⟨h29', hp4⟩ | ⟨h40, h29', h30'⟩
  case inr =>
    obtain ⟨I6, m1, c1, m2, r2, ec2, er2, hf⟩ := want_bad hg ok.1 (Or.inl ⟨now4, nc4, nr4, sp, by omega, h40, j29 _ h29', j30 _ h30'⟩) (k := 41) (by decide) (by decide) (d + 5) (e + 5) pa pb (some 49) pw
    rw [jgo_some (d := d + 6) rfl ec2, show nI 41 = nI (kR 41) from rfl, jgo_some (d := e + 6) rfl er2]
    dsimp only [Option.toList_some, Option.toList_none, List.cons_append, List.nil_append]
    exact ff _ _ _ _ _ _ _ _ _ _ hf
  rcases want_ok hg ok.1 sp (j29 _ h29') (show nc4 ≤ 1201 by omega) (k := 41) (by decide) (by decide) (d + 5) (e + 5) pa pb (some 49) pw with ⟨q2', ec2, er2, lt5, st5, h295⟩ | ⟨q2', I6, J6, m1, c1, m2, r2, ec2, er2, hf⟩
  case inr =>
    rw [jgo_some (d := d + 6) rfl ec2, show nI 41 = nI (kR 41) from rfl, jgo_some (d := e + 6) rfl er2]
    dsimp only [Option.toList_some, Option.toList_none, List.cons_append, List.nil_append]
    exact ff _ _ _ _ _ _ _ _ _ _ hf
  rw [jgo_some (d := d + 6) rfl ec2, show nI 41 = nI (kR 41) from rfl, jgo_some (d := e + 6) rfl er2]
  dsimp only [Option.toList_some, Option.toList_none, List.cons_append, List.nil_append]
  rw [B30_130_g49, B274_148]
  obtain ⟨_, _, e3, e4, e5, e6, e7, e8, e9, e10, e11, e12, e13, e14, e15⟩ := id st5
  rw [jgo_some (d := d + 6) rfl (add_c49 (d := d + 6) e12 (show nc4 < 1201 by omega) _ _ _ _ _)]
  dsimp only [Option.toList_some, Option.toList_none, List.cons_append, List.nil_append]
  rw [B30_147_g49]
  refine jW2_some (eQ.ok (now' := now4 + 1) (nc' := nc4 + 1) (nr' := nr4) (by omega) (eSt.addC hg st5 (by omega) _ _ _ _ _) h295 ?_)
  -- the node means the same in both
  intro C R V a1 a2 a3'
  obtain ⟨z1, y1, y2, y3, y4, y5, _⟩ := adC_at (I := j_up (j_up I4 27 16 (nI s)) 27 7 (nI (now4 + 1))) 49 nc4 (nI (9 + i)) (nI s) (nI n1) (nI n2) (nI n3)
  have cc : ∀ c, c < 5 → ∀ j, nc ≤ j → j < nc4 → C c j = I4 (49 + 1 + c) j := fun c hc j j1 j2 => by
    rw [a1 c hc j j1 (by omega), z1 j (by omega) c hc, j_up_cell _ (by omega), j_up_cell _ (by omega)]
  have rr : ∀ c, c < 4 → ∀ j, nr ≤ j → j < nr4 → j ≠ nr3 → R c j = J4 (21 + c) j := fun c hc j j1 j2 j3 => by
    rw [a2 c hc j j1 j2, j_up_cell _ (by omega), j_up_cell _ (by omega), j_up_app]
    by_cases z : 21 + c = 24
    · rw [if_pos z, if_neg j3, ← z]
    · rw [if_neg z]
  have r3 : R 3 nr3 = nI k3 := by
    rw [a2 3 (by decide) nr3 a6 (by omega), j_up_cell _ (by decide), j_up_cell _ (by decide), j_up_own, if_pos rfl]
  have rl : ∀ c, c < 3 → R c nr3 = adR J3 nr3 (nI (8 + i)) (nI k1) (nI k2) 0 (21 + c) nr3 := fun c hc => by
    rw [a2 c (by omega) nr3 a6 (by omega), j_up_cell _ (by omega), j_up_cell _ (by omega), j_up_cell _ (by omega), f2.2.1 c (by omega) nr3 (by omega), j_up_cell _ (by omega), j_up_cell _ (by omega)]
  have sub : ∀ n k, pst 49 I3 J3 L3' nl nt lam h true ww s rho nc nc3 nr nr3 n k → rel C R V nl nt lam h true (lam + (now4 - now) - 1) s rho n k := fun n k p => by
    refine rel_mono (Nat.le_refl _) (by omega) (p C R V (fun c hc j j1 j2 => ?_) (fun c hc j j1 j2 => ?_) (fun j j1 j2 => ?_))
    · rw [cc c hc j j1 (by omega), f1.2.2.1 c hc j j2, j_up_cell _ (by omega)]
    · rw [rr c hc j j1 (by omega) (by omega), f2.2.1 c hc j (by omega), j_up_cell _ (by omega), j_up_cell _ (by omega), q1 j (by omega) c hc]
    · rw [a3' j j1 (by omega), f2.2.2.2.2.2.1 j (by omega), j_up_cell _ (by decide), j_up_own, if_neg (by omega)]
  have sub3 : rel C R V nl nt lam h true (lam + (now4 - now) - 1) (s + 1) (upN rho s nr3) n3 k3 := by
    refine rel_mono (Nat.le_refl _) (by omega) (hp4 C R V (fun c hc j j1 j2 => cc c hc j (by omega) j2) (fun c hc j j1 j2 => rr c hc j (by omega) j2 (by omega)) (fun j j1 j2 => a3' j (by omega) j2))
  refine ⟨by omega, by omega, Or.inr ⟨lam + (now4 - now), by omega, Or.inl ⟨rfl, Or.inr (Or.inr (Or.inr (Or.inr (Or.inr (Or.inr (Or.inr (Or.inr ⟨i, n1, k1, n2, k2, n3, k3, lam + (now4 - now) - 1, hi, ?_, (rl 0 (by decide)).trans q2, ?_, hs, by omega, ?_, (rl 1 (by decide)).trans q3, sub n1 k1 p1, ?_, (rl 2 (by decide)).trans q4, sub n2 k2 p2, ?_, r3, sub3, fun j hj z => ?_⟩)))))))⟩⟩⟩
  · exact (a1 0 (by decide) nc4 (by omega) (by omega)).trans y1
  · exact (a1 4 (by decide) nc4 (by omega) (by omega)).trans y2
  · exact (a1 1 (by decide) nc4 (by omega) (by omega)).trans y3
  · exact (a1 2 (by decide) nc4 (by omega) (by omega)).trans y4
  · exact (a1 3 (by decide) nc4 (by omega) (by omega)).trans y5
  · have z6 := (ok3.2.2.2.1.2.2.2.1 j hj).2.2.2.2.2
    rw [a15, z] at z6
    exact absurd z6 (nI_nlt (Nat.le_refl _) (by omega))
theorem series_sim49 {d e h i : Nat} {D D' : Int32} (hi : i < 3) (hs : s < 24) (Hs : ∀ (I : Nat → Nat → Int32) (L : Nat → Nat → Int64) (J : Nat → Nat → Int32) (L' : Nat → Nat → Int64) (now nc nr : Nat), pOk 49 T K P W U Q nm kd nb nl nt nu s cw rho now nc nr I L J L' → jW2 (jv (d + 6) 25 0 [some (.ref 27), some (.int (D + 1)), none, none, none, none, none] [] (shC, I, L, pX pa pb (some 49) pw)) (jv (e + 6) 270 0 [some (.ref 0), some (.int (D' + 1)), none, none] [] (shR, J, L', pR)) (eQ 49 T K P nl nt lam s rho h true now nc nr I L J L' (pX pa pb (some 49) pw))) (Hb : ∀ (w' : List Nat) (r' : Nat) (I : Nat → Nat → Int32) (L : Nat → Nat → Int64) (J : Nat → Nat → Int32) (L' : Nat → Nat → Int64) (now nc nr : Nat), pOk 49 T K P W U Q nm kd nb nl nt nu (s + 1) (upW cw s w') (upN rho s r') now nc nr I L J L' → jW2 (jv (d + 6) 25 0 [some (.ref 27), some (.int (D + 1)), none, none, none, none, none] [] (shC, I, L, pX pa pb (some 49) pw)) (jv (e + 6) 270 0 [some (.ref 0), some (.int (D' + 1)), none, none] [] (shR, J, L', pR)) (eQ 49 T K P nl nt lam (s + 1) (upN rho s r') h true now nc nr I L J L' (pX pa pb (some 49) pw))) {I J : Nat → Nat → Int32} {L L' : Nat → Nat → Int64} {now nc nr : Nat} (ok : pOk 49 T K P W U Q nm kd nb nl nt nu s cw rho now nc nr I L J L') (hK : now < T) : jW2 (jv (d + 7) 30 0 [some (.ref 27), some (.int D), some (.int (nI (9 + i))), none, none, none, none, none, none] [] (shC, I, L, pX pa pb (some 49) pw)) (jv (e + 7) 274 0 [some (.ref 0), some (.int (nI i)), some (.int D'), none, none, none, none, none] [] (shR, j_up J 0 28 (nI (now + 1)), L', pR)) (eQ 49 T K P nl nt lam s rho (h + 1) true now nc nr I L J L' (pX pa pb (some 49) pw)) := by
  have hg : 49 = 38 ∨ 49 = 49 := by decide
  obtain ⟨tk, kw, hN, hC, a5, a6, a7, a8, a9, a10, a11, a12, a13⟩ := id ok
  have hT := ok.1.1
  have st1 := eSt.adv hg ok.st hK
  have h291 : j_up J 0 28 (nI (now + 1)) 0 29 = 0 := by rw [j_up_own, if_neg (by decide)]; exact a9
  rw [B30_0_g49, B274_0, a10, show nI now + 1 = nI (now + 1) from nI_add now 1]
  rcases want_ok hg ok.1 st1 h291 (show nc ≤ 1201 by omega) (k := 40) (by decide) (by decide) (d + 5) (e + 5) pa pb (some 49) pw with ⟨q, ec, er, lt, st2, h292⟩ | ⟨q, I2, J2, n1, c1, n2, r2, ec, er, hf⟩
  case inr =>
    rw [show (40 : Int32) = nI 40 from rfl, jgo_some (d := d + 6) rfl ec, show nI 40 = nI (kR 40) from rfl, jgo_some (d := e + 6) rfl er]
    dsimp only [Option.toList_some, Option.toList_none, List.cons_append, List.nil_append]
    rw [B30_16_g49, jgo_some (d := d + 6) rfl (name_cf (d := d + 5) hf.f.1 _ _), B274_6, if_neg hf.f.2]
    dsimp only [Option.toList_some, Option.toList_none, List.cons_append, List.nil_append]
    rw [se21_cf49 (d := d + 3) hf.f.1, se22_rf (e := e + 4) hf.f.2]
    exact jW2_some (eQ.f hf _ _)
  rw [show (40 : Int32) = nI 40 from rfl, jgo_some (d := d + 6) rfl ec, show nI 40 = nI (kR 40) from rfl, jgo_some (d := e + 6) rfl er]
  dsimp only [Option.toList_some, Option.toList_none, List.cons_append, List.nil_append]
  rw [B30_16_g49, B274_6, if_pos h292]
  have ok2 := eSt.ok hg ok st2 h292
  obtain ⟨nc1', nc2', nc3'⟩ := name_c (d + 4) (pa := pa) (pb := pb) (pu := some 49) (pw := pw) ok2 none none
  obtain ⟨nr1', nr2', nr3'⟩ := name_r (e + 5) ok2 none none none none
  have nof : ∀ f, 1 ≤ f ∧ f ≤ 6 → jv (d + 6) 19 0 [some (.ref 27), none, none] [] (shC, j_up (j_up I 27 7 (nI (now + 1))) 27 7 (nI (now + 1 + 1)), L, pX pa pb (some 49) pw) = some (some (.long 0), (shC, flC (j_up (j_up I 27 7 (nI (now + 1))) 27 7 (nI (now + 1 + 1))) f (P (now + 1 + 1)), L, pX pa pb (some 49) pw)) → jv (e + 6) 263 0 [some (.ref 0), none, none, none, none] [] (shR, j_up (j_up J 0 28 (nI (now + 1))) 0 28 (nI (now + 1 + 1)), L', pR) = some (some (.long 0), (shR, flR (j_up (j_up J 0 28 (nI (now + 1))) 0 28 (nI (now + 1 + 1))) f (P (now + 1 + 1)), L', pR)) → jW2 (jgo jTT jMM (d + 7) 19 [.ref 27] (shC, j_up (j_up I 27 7 (nI (now + 1))) 27 7 (nI (now + 1 + 1)), L, pX pa pb (some 49) pw) (fun v S => jv (d + 7) 30 21 [some (.ref 27), some (.int D), some (.int (nI (9 + i))), none, none, none, none, none, none] (v.toList ++ []) S)) (jgo jTT jMM (e + 7) 263 [.ref 0] (shR, j_up (j_up J 0 28 (nI (now + 1))) 0 28 (nI (now + 1 + 1)), L', pR) (fun v S => jv (e + 7) 274 18 [some (.ref 0), some (.int (nI i)), some (.int D'), none, none, none, none, none] (v.toList ++ []) S)) (eQ 49 T K P nl nt lam s rho (h + 1) true now nc nr I L J L' (pX pa pb (some 49) pw)) := by
    intro f hf ec er
    have hf := eSt.fl hg st2 (f := f) (p := P (now + 1 + 1)) hf (by omega)
    rw [jgo_some (d := d + 6) rfl ec, jgo_some (d := e + 6) rfl er]
    dsimp only [Option.toList_some, Option.toList_none, List.cons_append, List.nil_append]
    rw [B274_18, se21_cf49 (d := d + 3) hf.f.1, se22_rf (e := e + 4) hf.f.2]
    exact jW2_some (eQ.f hf _ _)
  by_cases q2 : K (now + 1 + 1) = 97
  case neg => exact nof 2 (by decide) (nc1' q2) (nr1' q2)
  by_cases q3 : hadW Q nm s cw (W (now + 1 + 1))
  case pos => exact nof 4 (by decide) (nc2' q2 q3) (nr2' q2 q3)
  clear nof
  rw [jgo_some (d := d + 6) rfl (nc3' q2 q3), jgo_some (d := e + 6) rfl (nr3' q2 q3)]
  dsimp only [Option.toList_some, Option.toList_none, List.cons_append, List.nil_append]
  rw [B274_18, B30_21_g49, B274_22]
  have hw : okW (W (now + 1 + 1)) := (tk.2.2.2.2.2.1 (now + 1 + 1) (tk.lt st2.2.2.2.1 q2 (by decide)) q2).1
  have hnew : ∀ i, i < s → cw i ≠ W (now + 1 + 1) := fun i hi z => q3 (Or.inr (Or.inr (Or.inr (Or.inr ⟨i, hi, z⟩))))
  have st3 := eSt.adv hg st2 (tk.lt st2.2.2.2.1 q2 (by decide))
  have h293 : j_up (j_up (j_up J 0 28 (nI (now + 1))) 0 28 (nI (now + 1 + 1))) 0 28 (nI (now + 1 + 1 + 1)) 0 29 = 0 := by rw [j_up_own, if_neg (by decide)]; exact h292
  revert st3 h293
  generalize j_up (j_up (j_up I 27 7 (nI (now + 1))) 27 7 (nI (now + 1 + 1))) 27 7 (nI (now + 1 + 1 + 1)) = Ib
  generalize j_up (j_up (j_up J 0 28 (nI (now + 1))) 0 28 (nI (now + 1 + 1))) 0 28 (nI (now + 1 + 1 + 1)) = Jb
  revert hw hnew
  generalize W (now + 1 + 1) = wd
  intro hw hnew st3 h293
  rcases want_ok hg ok.1 st3 h293 (show nc ≤ 1201 by omega) (k := 44) (by decide) (by decide) (d + 5) (e + 5) pa pb (some 49) pw with ⟨q, ec, er, lt, st4, h294⟩ | ⟨q, I2, J2, n1, c1, n2, r2, ec, er, hf⟩
  case inr =>
    rw [show (44 : Int32) = nI 44 from rfl, jgo_some (d := d + 6) rfl ec, show nI 44 = nI (kR 44) from rfl, jgo_some (d := e + 6) rfl er]
    dsimp only [Option.toList_some, Option.toList_none, List.cons_append, List.nil_append]
    rw [se28_cf49 (d := d + 3) hf.f.1, se29_rf (e := e + 4) hf.f.2]
    exact jW2_some (eQ.f hf _ _)
  rw [show (44 : Int32) = nI 44 from rfl, jgo_some (d := d + 6) rfl ec, show nI 44 = nI (kR 44) from rfl, jgo_some (d := e + 6) rfl er]
  dsimp only [Option.toList_some, Option.toList_none, List.cons_append, List.nil_append]
  rw [B30_28_g49, B274_29]
  have ok4 := eSt.ok hg ok st4 h294
  refine jW2_go rfl rfl (Hs _ _ _ _ _ _ _ ok4) ?_
  intro v S w S' hq
  obtain ⟨I5, L5, J5, L5', x, y, rfl, rfl, rfl, rfl, vc5, vr5, I6, J6, ec5, er5, hw5⟩ := eQ.w (d := d + 5) (e := e + 5) hg ok st4 hq (k := 44) (by decide) (by decide) (by decide)
  dsimp only [Option.toList_some, Option.toList_none, List.cons_append, List.nil_append]
  rw [B30_36_g49, B274_37, show (44 : Int32) = nI 44 from rfl, jgo_some (d := d + 6) rfl ec5, show nI 44 = nI (kR 44) from rfl, jgo_some (d := e + 6) rfl er5]
  dsimp only [Option.toList_some, Option.toList_none, List.cons_append, List.nil_append]
  rcases hw5 with ⟨now5, nc5, nr5, n1, k1, rfl, rfl, lt5, gc5, gr5, hc5, hr5, st5, fc5, fr5, h295, p5, v5⟩ | ⟨m1, c1, m2, r2, v0, hf⟩
  case inr =>
    rw [se44_cf49 (d := d + 3) hf.f.1, se45_rf (e := e + 4) hf.f.2]
    exact jW2_some (eQ.f hf _ _)
  rw [B30_44_g49, B274_45]
  have ok5 := eSt.ok hg ok st5 h295
  refine jW2_go rfl rfl (Hs _ _ _ _ _ _ _ ok5) ?_
  intro v S w S' hq
  obtain ⟨I7, L7, J7, L7', x, y, rfl, rfl, rfl, rfl, vc7, vr7, I8, J8, ec7, er7, hw7⟩ := eQ.w (d := d + 5) (e := e + 5) hg ok st5 hq (k := 44) (by decide) (by decide) (by decide)
  dsimp only [Option.toList_some, Option.toList_none, List.cons_append, List.nil_append]
  rw [B30_52_g49, B274_53, show (44 : Int32) = nI 44 from rfl, jgo_some (d := d + 6) rfl ec7, show nI 44 = nI (kR 44) from rfl, jgo_some (d := e + 6) rfl er7]
  dsimp only [Option.toList_some, Option.toList_none, List.cons_append, List.nil_append]
  rcases hw7 with ⟨now7, nc7, nr7, n2, k2, rfl, rfl, lt7, gc7, gr7, hc7, hr7, st7, fc7, fr7, h297, p7, v7⟩ | ⟨m1, c1, m2, r2, v0, hf⟩
  case inr =>
    rw [B30_60_g49, if_neg hf.f.1, B30_81_g49, jgo_some (d := d + 6) rfl (fail_cf hf.f.1 _ _), B274_61, if_neg hf.f.2]
    dsimp only [Option.toList_some, Option.toList_none, List.cons_append, List.nil_append]
    rw [B30_90_g49]
    exact jW2_some (eQ.f hf _ _)
  have s7 := st7.2.2.2.2.2.2.1
  have s8 := st7.2.2.2.2.2.2.2.1
  have s5 := st5.2.2.2.2.2.2.1
  have s6 := st5.2.2.2.2.2.2.2.1
  have p5' := p5.later (h2 := h) (w2 := lam + (now7 - now - 2)) (Nat.le_refl _) (by omega) fc7 fr7 (Nat.le_refl _) (Nat.le_refl _)
  have p7' : pst 49 I8 J8 L7' nl nt lam h true (lam + (now7 - now - 2)) s rho nc5 nc7 nr5 nr7 n2 k2 := p7.eqs (Nat.le_refl _) (by omega) (fun _ _ => rfl) (fun _ _ => rfl) rfl
  exact body_sim49 hi hs Hb ok st7 h297 (by omega) (by omega) hw hnew (lam + (now7 - now - 2)) (by omega) (p5'.wide (by omega) (by omega) (by omega) (by omega)) (p7'.wide (by omega) (by omega) (by omega) (by omega)) _ _
end PARP
