/-! RULES: nodes above several parts; minus, not, comparisons -/
section PARM
variable {T : Nat} {K P : Nat → Nat} {W : Nat → List Nat} {U : Nat → Nat} {Q : Nat} {nm : Nat → List Nat} {kd nb : Nat → Nat} {nl nt nu s : Nat} {cw : Nat → List Nat} {rho : Nat → Nat} {lam : Nat} {pa pb pw : Option Nat}
theorem cfr.le {g nc nc1 : Nat} {I I' : Nat → Nat → Int32} (h : cfr g nc1 I I') (hn : nc ≤ nc1) : cfr g nc I I' := by
  obtain ⟨a, b, c, n, d, e, f⟩ := h
  exact ⟨a, fun c' hc i hi => b c' hc i (by omega), c, n, by omega, e, f⟩
theorem cfr.trans {g nc nc1 : Nat} {I I' I2 : Nat → Nat → Int32} (h : cfr g nc I I') (h' : cfr g nc1 I' I2) (hn : nc ≤ nc1) : cfr g nc I I2 := by
  obtain ⟨a, b, c, n, d, e, f⟩ := h
  obtain ⟨a', b', c', n', d', e', f'⟩ := h'
  exact ⟨fun c hc => (a' c hc).trans (a c hc), fun c hc i hi => (b' c hc i (by omega)).trans (b c hc i hi), fun q hq => (c' q hq).trans (c q hq), n', by omega, e', f'⟩
/-- a node above parts -/
theorem pst.upG {Zp : (Nat → Nat → Int32) → (Nat → Nat → Int32) → (Nat → Int64) → Prop} {g : Nat} {b2 : Bool} {I J : Nat → Nat → Int32} {L' : Nat → Nat → Int64} {nl nt lam h w w2 s nc nc' nr nr' : Nat} {rho : Nat → Nat} (z0 : ∀ (C R : Nat → Nat → Int32) (V : Nat → Int64), (∀ c, c < 5 → ∀ i, nc ≤ i → i < nc' → C c i = I (g + 1 + c) i) → (∀ c, c < 4 → ∀ i, nr ≤ i → i < nr' → R c i = J (21 + c) i) → (∀ i, nr ≤ i → i < nr' → V i = L' 25 i) → Zp C R V) (hc : nc' < 1201) (hr : nr' < 1400) (hw : w < w2) (n0 : nc ≤ nc') (r0 : nr ≤ nr') (a v x y z a' x' y' z' : Int32) (v0 : Int64) (hx : ∀ (C R : Nat → Nat → Int32) (V : Nat → Int64), C 0 nc' = a → C 1 nc' = x → C 2 nc' = y → C 3 nc' = z → C 4 nc' = v → R 0 nr' = a' → R 1 nr' = x' → R 2 nr' = y' → R 3 nr' = z' → V nr' = v0 → Zp C R V → (b2 = true ∧ relN C R V nl nt lam (fun b' w2 s' r' n' k' => rel C R V nl nt lam h b' w2 s' r' n' k') w s rho nc' nr') ∨ (b2 = false ∧ relB C R (fun b' w2 s' r' n' k' => rel C R V nl nt lam h b' w2 s' r' n' k') w s rho nc' nr')) : pst g (adC g I nc' a v x y z) (adR J nr' a' x' y' z') (j_up L' 25 nr' v0) nl nt lam (h + 1) b2 w2 s rho nc (nc' + 1) nr (nr' + 1) nc' nr' := by
  obtain ⟨c1, d1, d2, d3, d4, d5, _⟩ := adC_at (I := I) g nc' a v x y z
  obtain ⟨e1, g1, g2, g3, g4, _⟩ := adR_at (J := J) nr' a' x' y' z'
  intro C R V a1 a2 a3
  refine ⟨hc, hr, Or.inr ⟨w, by omega, hx C R V ?_ ?_ ?_ ?_ ?_ ?_ ?_ ?_ ?_ ?_ (z0 C R V (fun c hc' i i1 i2 => ?_) (fun c hc' i i1 i2 => ?_) (fun i i1 i2 => ?_))⟩⟩
  · exact (a1 0 (by decide) nc' n0 (by omega)).trans d1
  · exact (a1 1 (by decide) nc' n0 (by omega)).trans d3
  · exact (a1 2 (by decide) nc' n0 (by omega)).trans d4
  · exact (a1 3 (by decide) nc' n0 (by omega)).trans d5
  · exact (a1 4 (by decide) nc' n0 (by omega)).trans d2
  · exact (a2 0 (by decide) nr' r0 (by omega)).trans g1
  · exact (a2 1 (by decide) nr' r0 (by omega)).trans g2
  · exact (a2 2 (by decide) nr' r0 (by omega)).trans g3
  · exact (a2 3 (by decide) nr' r0 (by omega)).trans g4
  · rw [a3 nr' r0 (by omega), j_up_own, if_pos rfl]
  · rw [a1 c hc' i i1 (by omega), c1 i (by omega) c hc']
  · rw [a2 c hc' i i1 (by omega), e1 i (by omega) c hc']
  · rw [a3 i i1 (by omega), j_up_own, if_neg (by omega)]
/-- both add a node, whatever was found -/
theorem addB38 {d e h : Nat} {b2 : Bool} {I J : Nat → Nat → Int32} {L L' : Nat → Nat → Int64} {now nc nr : Nat} (ok : pOk 38 T K P W U Q nm kd nb nl nt nu s cw rho now nc nr I L J L') {I1 J1 : Nat → Nat → Int32} {L1 L1' : Nat → Nat → Int64} (a v x y z a' x' y' z' : Int32)
    (hh : (∃ now' nc' nr', now < now' ∧ eSt 38 T s now nc nr I L J L' now' nc' nr' I1 L1 J1 L1' ∧ nc' + 1 + now ≤ nc + now' ∧ nr' + 1 + now ≤ nr + now' ∧ ((J1 0 29 = 0 ∧ pst 38 (adC 38 I1 nc' a v x y z) (adR J1 nr' a' x' y' z') (j_up L1' 25 nr' 0) nl nt lam h b2 (lam + (now' - now)) s rho nc (nc' + 1) nr (nr' + 1) nc' nr') ∨ (K now' = 40 ∧ J1 0 29 = 2 ∧ J1 0 30 = nI (P now')))) ∨ ∃ now1 nc1 now2 nr2, eF 38 T s now nc nr I L J L' now1 nc1 now2 nr2 I1 L1 J1 L1' ∧ nr2 + 1 + now ≤ nr + now2)
    (Q' : Option Value → jS → Option Value → jS → Prop) (KC KR : Option Value → jS → jO) (hK : ∀ x' S y' S', eQ 38 T K P nl nt lam s rho h b2 now nc nr I L J L' (pX pa pb (some 38) pw) (some (.int x')) S (some (.int y')) S' → jW2 (KC (some (.int x')) S) (KR (some (.int y')) S') Q') : jW2 (jgo jTT jMM (d + 1) 94 [.ref 38, .int a, .int v, .int x, .int y, .int z] (shC, I1, L1, pX pa pb (some 38) pw) KC) (jgo jTT jMM (e + 1) 266 [.ref 0, .int a', .int x', .int y', .int z', .long 0] (shR, J1, L1', pR) KR) Q' := by
  have hg : 38 = 38 ∨ 38 = 49 := by decide
  have hT := ok.1.1
  have hnc := ok.2.2.2.2.2.1
  have hnr := ok.2.2.2.2.2.2.1
  rcases hh with ⟨now2, nc2, nr2, lt2, st2, s1, s2, hh⟩ | ⟨now1, nc1, now2, nr2, hf1, s1⟩
  · obtain ⟨_, _, a3, a4, a5, a6, a7, a8, a9, a10, a11, a12, a13, a14, a15⟩ := id st2
    have st4 := eSt.add hg st2 s1 s2 a v x y z a' x' y' z' 0
    obtain ⟨_, _, _, _, _, _, r3, _⟩ := adR_at (J := J1) nr2 a' x' y' z'
    rw [jgo_some (d := d) rfl (add_c38 (d := d) (L := L1) (pa := pa) (pb := pb) (pu := some 38) (pw := pw) a12 (show nc2 < 1201 by omega) a v x y z), jgo_some (d := e) rfl (node_r (e := e) (L' := L1') a15 (show nr2 < 1400 by omega) a' x' y' z' 0)]
    refine hK _ _ _ _ ?_
    rcases hh with ⟨h29', hp2⟩ | ⟨h40, h29', h30'⟩
    · exact eQ.ok lt2 st4 (by rw [r3 29 (by decide)]; exact h29') hp2
    · exact eQ.pd lt2 st4 h40 (by rw [r3 29 (by decide)]; exact h29') (by rw [r3 30 (by decide)]; exact h30')
  · have q1 := hf1.2.2.2.2.2.2.2.1
    have q2 := hf1.2.2.2.2.2.2.1
    have q3 := hf1.2.2.2.2.2.2.2.2.2.2.2.2.2
    have q5 := hf1.2.2.2.2.2.2.2.2.2.1
    have hf2 := eF.addR hf1 s1 a' x' y' z' 0
    rw [jgo_some (d := e) rfl (node_r (e := e) (L' := L1') q3 (show nr2 < 1400 by omega) a' x' y' z' 0)]
    rcases Nat.lt_or_eq_of_le q2 with z | z
    · rw [jgo_some (d := d) rfl (add_c38 q1 z _ _ _ _ _)]
      exact hK _ _ _ _ (eQ.f (eF.addC hg hf2 z _ _ _ _ _) _ _)
    · rw [jgo_some (d := d) rfl (add_f38 (by rw [q1, z]) _ _ _ _ _)]
      exact hK _ _ _ _ (eQ.f hf2 _ _)
/-- minus, not: one part behind a token -/
theorem unary38 {d e h : Nat} {b b2 : Bool} {I J : Nat → Nat → Int32} {L L' : Nat → Nat → Int64} {now nc nr : Nat} (ok : pOk 38 T K P W U Q nm kd nb nl nt nu s cw rho now nc nr I L J L') (hlt : now < T) (a a' x y : Int32) {I1 J1 : Nat → Nat → Int32} {L1 L1' : Nat → Nat → Int64} (hq : eQ 38 T K P nl nt lam s rho h b (now + 1) nc nr (j_up I 27 7 (nI (now + 1))) L (j_up J 0 28 (nI (now + 1))) L' (pX pa pb (some 38) pw) (some (.int x)) (shC, I1, L1, pX pa pb (some 38) pw) (some (.int y)) (shR, J1, L1', pR)) (hx : ∀ (C R : Nat → Nat → Int32) (V : Nat → Int64) (w n k n1 k1 : Nat), C 0 n = a → C 1 n = nI n1 → R 0 k = a' → R 1 k = nI k1 → rel C R V nl nt lam h b w s rho n1 k1 → (b2 = true ∧ relN C R V nl nt lam (fun b' w2 s' r' n' k' => rel C R V nl nt lam h b' w2 s' r' n' k') w s rho n k) ∨ (b2 = false ∧ relB C R (fun b' w2 s' r' n' k' => rel C R V nl nt lam h b' w2 s' r' n' k') w s rho n k)) (Q' : Option Value → jS → Option Value → jS → Prop) (KC KR : Option Value → jS → jO) (hK : ∀ x' S y' S', eQ 38 T K P nl nt lam s rho (h + 1) b2 now nc nr I L J L' (pX pa pb (some 38) pw) (some (.int x')) S (some (.int y')) S' → jW2 (KC (some (.int x')) S) (KR (some (.int y')) S') Q') : jW2 (jgo jTT jMM (d + 1) 94 [.ref 38, .int a, .int 0, .int x, .int (-1), .int (-1)] (shC, I1, L1, pX pa pb (some 38) pw) KC) (jgo jTT jMM (e + 1) 266 [.ref 0, .int a', .int y, .int 0, .int 0, .long 0] (shR, J1, L1', pR) KR) Q' := by
  have hg : 38 = 38 ∨ 38 = 49 := by decide
  have hT := ok.1.1
  have hnc := ok.2.2.2.2.2.1
  have hnr := ok.2.2.2.2.2.2.1
  have st1 := eSt.adv hg ok.st hlt
  obtain ⟨I2, L2, J2, L2', x2, y2, e1, e2, e3, e4, hh⟩ := hq
  cases e1; cases e2; cases e3; cases e4
  refine addB38 ok _ _ _ _ _ _ _ _ _ ?_ Q' KC KR hK
  rcases hh with ⟨now2, nc2, nr2, n2, k2, lt2, st2, rfl, rfl, hh⟩ | ⟨now1, nc1, now2, nr2, hf⟩
  · have st3 := eSt.trans st1 st2
    obtain ⟨_, _, a3, a4, a5, a6, a7, a8, _⟩ := id st2
    refine Or.inl ⟨now2, nc2, nr2, by omega, st3, by omega, by omega, ?_⟩
    rcases hh with ⟨h29', hp2⟩ | hh
    · exact Or.inl ⟨h29', pst.upG (Zp := fun C R V => rel C R V nl nt lam h b (lam + (now2 - (now + 1))) s rho n2 k2) hp2 (by omega) (by omega) (by omega) a5 a6 _ _ _ _ _ _ _ _ _ _ (fun C R V c0 c1 c2 c3 c4 r0 r1 r2 r3 v0 z => hx C R V _ _ _ _ _ c0 c1 r0 r1 z)⟩
    · exact Or.inr hh
  · have q6 := hf.2.2.2.2.2.2.2.2.2.2.2.2.1
    exact Or.inr ⟨now1, nc1, now2, nr2, eF.pre st1 hf, by omega⟩
/-- both add a node, whatever was found -/
theorem addB49 {d e h : Nat} {b2 : Bool} {I J : Nat → Nat → Int32} {L L' : Nat → Nat → Int64} {now nc nr : Nat} (ok : pOk 49 T K P W U Q nm kd nb nl nt nu s cw rho now nc nr I L J L') {I1 J1 : Nat → Nat → Int32} {L1 L1' : Nat → Nat → Int64} (a v x y z a' x' y' z' : Int32)
    (hh : (∃ now' nc' nr', now < now' ∧ eSt 49 T s now nc nr I L J L' now' nc' nr' I1 L1 J1 L1' ∧ nc' + 1 + now ≤ nc + now' ∧ nr' + 1 + now ≤ nr + now' ∧ ((J1 0 29 = 0 ∧ pst 49 (adC 49 I1 nc' a v x y z) (adR J1 nr' a' x' y' z') (j_up L1' 25 nr' 0) nl nt lam h b2 (lam + (now' - now)) s rho nc (nc' + 1) nr (nr' + 1) nc' nr') ∨ (K now' = 40 ∧ J1 0 29 = 2 ∧ J1 0 30 = nI (P now')))) ∨ ∃ now1 nc1 now2 nr2, eF 49 T s now nc nr I L J L' now1 nc1 now2 nr2 I1 L1 J1 L1' ∧ nr2 + 1 + now ≤ nr + now2)
    (Q' : Option Value → jS → Option Value → jS → Prop) (KC KR : Option Value → jS → jO) (hK : ∀ x' S y' S', eQ 49 T K P nl nt lam s rho h b2 now nc nr I L J L' (pX pa pb (some 49) pw) (some (.int x')) S (some (.int y')) S' → jW2 (KC (some (.int x')) S) (KR (some (.int y')) S') Q') : jW2 (jgo jTT jMM (d + 1) 94 [.ref 49, .int a, .int v, .int x, .int y, .int z] (shC, I1, L1, pX pa pb (some 49) pw) KC) (jgo jTT jMM (e + 1) 266 [.ref 0, .int a', .int x', .int y', .int z', .long 0] (shR, J1, L1', pR) KR) Q' := by
  have hg : 49 = 38 ∨ 49 = 49 := by decide
  have hT := ok.1.1
  have hnc := ok.2.2.2.2.2.1
  have hnr := ok.2.2.2.2.2.2.1
  rcases hh with ⟨now2, nc2, nr2, lt2, st2, s1, s2, hh⟩ | ⟨now1, nc1, now2, nr2, hf1, s1⟩
  · obtain ⟨_, _, a3, a4, a5, a6, a7, a8, a9, a10, a11, a12, a13, a14, a15⟩ := id st2
    have st4 := eSt.add hg st2 s1 s2 a v x y z a' x' y' z' 0
    obtain ⟨_, _, _, _, _, _, r3, _⟩ := adR_at (J := J1) nr2 a' x' y' z'
    rw [jgo_some (d := d) rfl (add_c49 (d := d) (L := L1) (pa := pa) (pb := pb) (pu := some 49) (pw := pw) a12 (show nc2 < 1201 by omega) a v x y z), jgo_some (d := e) rfl (node_r (e := e) (L' := L1') a15 (show nr2 < 1400 by omega) a' x' y' z' 0)]
    refine hK _ _ _ _ ?_
    rcases hh with ⟨h29', hp2⟩ | ⟨h40, h29', h30'⟩
    · exact eQ.ok lt2 st4 (by rw [r3 29 (by decide)]; exact h29') hp2
    · exact eQ.pd lt2 st4 h40 (by rw [r3 29 (by decide)]; exact h29') (by rw [r3 30 (by decide)]; exact h30')
  · have q1 := hf1.2.2.2.2.2.2.2.1
    have q2 := hf1.2.2.2.2.2.2.1
    have q3 := hf1.2.2.2.2.2.2.2.2.2.2.2.2.2
    have q5 := hf1.2.2.2.2.2.2.2.2.2.1
    have hf2 := eF.addR hf1 s1 a' x' y' z' 0
    rw [jgo_some (d := e) rfl (node_r (e := e) (L' := L1') q3 (show nr2 < 1400 by omega) a' x' y' z' 0)]
    rcases Nat.lt_or_eq_of_le q2 with z | z
    · rw [jgo_some (d := d) rfl (add_c49 q1 z _ _ _ _ _)]
      exact hK _ _ _ _ (eQ.f (eF.addC hg hf2 z _ _ _ _ _) _ _)
    · rw [jgo_some (d := d) rfl (add_f49 (by rw [q1, z]) _ _ _ _ _)]
      exact hK _ _ _ _ (eQ.f hf2 _ _)
/-- minus, not: one part behind a token -/
theorem unary49 {d e h : Nat} {b b2 : Bool} {I J : Nat → Nat → Int32} {L L' : Nat → Nat → Int64} {now nc nr : Nat} (ok : pOk 49 T K P W U Q nm kd nb nl nt nu s cw rho now nc nr I L J L') (hlt : now < T) (a a' x y : Int32) {I1 J1 : Nat → Nat → Int32} {L1 L1' : Nat → Nat → Int64} (hq : eQ 49 T K P nl nt lam s rho h b (now + 1) nc nr (j_up I 27 7 (nI (now + 1))) L (j_up J 0 28 (nI (now + 1))) L' (pX pa pb (some 49) pw) (some (.int x)) (shC, I1, L1, pX pa pb (some 49) pw) (some (.int y)) (shR, J1, L1', pR)) (hx : ∀ (C R : Nat → Nat → Int32) (V : Nat → Int64) (w n k n1 k1 : Nat), C 0 n = a → C 1 n = nI n1 → R 0 k = a' → R 1 k = nI k1 → rel C R V nl nt lam h b w s rho n1 k1 → (b2 = true ∧ relN C R V nl nt lam (fun b' w2 s' r' n' k' => rel C R V nl nt lam h b' w2 s' r' n' k') w s rho n k) ∨ (b2 = false ∧ relB C R (fun b' w2 s' r' n' k' => rel C R V nl nt lam h b' w2 s' r' n' k') w s rho n k)) (Q' : Option Value → jS → Option Value → jS → Prop) (KC KR : Option Value → jS → jO) (hK : ∀ x' S y' S', eQ 49 T K P nl nt lam s rho (h + 1) b2 now nc nr I L J L' (pX pa pb (some 49) pw) (some (.int x')) S (some (.int y')) S' → jW2 (KC (some (.int x')) S) (KR (some (.int y')) S') Q') : jW2 (jgo jTT jMM (d + 1) 94 [.ref 49, .int a, .int 0, .int x, .int (-1), .int (-1)] (shC, I1, L1, pX pa pb (some 49) pw) KC) (jgo jTT jMM (e + 1) 266 [.ref 0, .int a', .int y, .int 0, .int 0, .long 0] (shR, J1, L1', pR) KR) Q' := by
  have hg : 49 = 38 ∨ 49 = 49 := by decide
  have hT := ok.1.1
  have hnc := ok.2.2.2.2.2.1
  have hnr := ok.2.2.2.2.2.2.1
  have st1 := eSt.adv hg ok.st hlt
  obtain ⟨I2, L2, J2, L2', x2, y2, e1, e2, e3, e4, hh⟩ := hq
  cases e1; cases e2; cases e3; cases e4
  refine addB49 ok _ _ _ _ _ _ _ _ _ ?_ Q' KC KR hK
  rcases hh with ⟨now2, nc2, nr2, n2, k2, lt2, st2, rfl, rfl, hh⟩ | ⟨now1, nc1, now2, nr2, hf⟩
  · have st3 := eSt.trans st1 st2
    obtain ⟨_, _, a3, a4, a5, a6, a7, a8, _⟩ := id st2
    refine Or.inl ⟨now2, nc2, nr2, by omega, st3, by omega, by omega, ?_⟩
    rcases hh with ⟨h29', hp2⟩ | hh
    · exact Or.inl ⟨h29', pst.upG (Zp := fun C R V => rel C R V nl nt lam h b (lam + (now2 - (now + 1))) s rho n2 k2) hp2 (by omega) (by omega) (by omega) a5 a6 _ _ _ _ _ _ _ _ _ _ (fun C R V c0 c1 c2 c3 c4 r0 r1 r2 r3 v0 z => hx C R V _ _ _ _ _ c0 c1 r0 r1 z)⟩
    · exact Or.inr hh
  · have q6 := hf.2.2.2.2.2.2.2.2.2.2.2.2.1
    exact Or.inr ⟨now1, nc1, now2, nr2, eF.pre st1 hf, by omega⟩
end PARM
