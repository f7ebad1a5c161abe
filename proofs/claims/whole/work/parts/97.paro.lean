/-! RULES: a part and the token behind it; choices -/
section PARO
variable {T : Nat} {K P : Nat → Nat} {W : Nat → List Nat} {U : Nat → Nat} {Q : Nat} {nm : Nat → List Nat} {kd nb : Nat → Nat} {nl nt nu s : Nat} {cw : Nat → List Nat} {rho : Nat → Nat} {lam : Nat} {pa pb pw : Option Nat}
/-- a part was read from (now1, nc1, nr1), and the token behind it -/
def eW (g T s : Nat) (nl nt lam h : Nat) (b : Bool) (rho : Nat → Nat) (now nc nr : Nat) (I : Nat → Nat → Int32) (L : Nat → Nat → Int64) (J : Nat → Nat → Int32) (L' : Nat → Nat → Int64) (now1 nc1 nr1 : Nat) (I1 : Nat → Nat → Int32) (L1 : Nat → Nat → Int64) (J1 : Nat → Nat → Int32) (L1' : Nat → Nat → Int64) (x y vc : Int32) (I3 : Nat → Nat → Int32) (L3 : Nat → Nat → Int64) (J3 : Nat → Nat → Int32) (L3' : Nat → Nat → Int64) : Prop :=
  (∃ now2 nc2 nr2 n k, x = nI n ∧ y = nI k ∧ now1 + 1 < now2 ∧ nc1 ≤ nc2 ∧ nr1 ≤ nr2 ∧ nc2 + now1 + 1 ≤ nc1 + now2 ∧ nr2 + now1 + 1 ≤ nr1 + now2 ∧ eSt g T s now nc nr I L J L' now2 nc2 nr2 I3 L3 J3 L3' ∧ eFC g s nc1 I1 I3 L1 L3 ∧ eFR s nr1 J1 J3 L1' L3' ∧ J3 0 29 = 0 ∧ pst g I3 J3 L3' nl nt lam h b (lam + (now2 - now1 - 1)) s rho nc1 nc2 nr1 nr2 n k ∧ vc = 1) ∨ ∃ n1 c1 n2 r2, vc = 0 ∧ eF g T s now nc nr I L J L' n1 c1 n2 r2 I3 L3 J3 L3'
theorem eFC.up7 {g s nc : Nat} {I I1 : Nat → Nat → Int32} {L L1 : Nat → Nat → Int64} (hg : g = 38 ∨ g = 49) (h : eFC g s nc I I1 L L1) (x : Int32) : eFC g s nc I (j_up I1 27 7 x) L L1 :=
  ⟨fun c h1 h2 => by rw [j_up_cell _ h1]; exact h.1 c h1 h2, fun q h1 => by rw [j_up_cell _ (by omega)]; exact h.2.1 q h1, fun c h1 i h2 => by rw [j_up_cell _ (by omega)]; exact h.2.2.1 c h1 i h2, fun q h1 h2 h3 h4 => by rw [j_up_own, if_neg h3]; exact h.2.2.2.1 q h1 h2 h3 h4, h.2.2.2.2.1, h.2.2.2.2.2⟩
theorem eFR.up28 {s nr : Nat} {J J1 : Nat → Nat → Int32} {L' L1' : Nat → Nat → Int64} (h : eFR s nr J J1 L' L1') (x : Int32) : eFR s nr J (j_up J1 0 28 x) L' L1' :=
  ⟨fun c h1 h2 h3 => by rw [j_up_cell _ h1]; exact h.1 c h1 h2 h3, fun c h1 i h2 => by rw [j_up_cell _ (by omega)]; exact h.2.1 c h1 i h2, fun i h1 => by rw [j_up_cell _ (by decide)]; exact h.2.2.1 i h1, fun q h1 h2 h3 h4 h5 => by rw [j_up_own, if_neg h1]; exact h.2.2.2.1 q h1 h2 h3 h4 h5, h.2.2.2.2.1, h.2.2.2.2.2.1, h.2.2.2.2.2.2⟩
theorem eQ.w {g : Nat} {d e h : Nat} {b : Bool} {pu : Option Nat} (hg : g = 38 ∨ g = 49) {I J : Nat → Nat → Int32} {L L' : Nat → Nat → Int64} {now nc nr : Nat} (ok : pOk g T K P W U Q nm kd nb nl nt nu s cw rho now nc nr I L J L') {now1 nc1 nr1 : Nat} {I1 J1 : Nat → Nat → Int32} {L1 L1' : Nat → Nat → Int64} (st : eSt g T s now nc nr I L J L' now1 nc1 nr1 I1 L1 J1 L1') {v w : Option Value} {S S' : jS} (hq : eQ g T K P nl nt lam s rho h b now1 nc1 nr1 I1 L1 J1 L1' (pX pa pb pu pw) v S w S') {k : Nat} (hk : k ∈ kdL) (hk0 : k ≠ 0) (h40 : k ≠ 40) : ∃ I2 L2 J2 L2' x y, v = some (.int x) ∧ w = some (.int y) ∧ S = (shC, I2, L2, pX pa pb pu pw) ∧ S' = (shR, J2, L2', pR) ∧ ∃ vc vr I3 J3, jv (d + 1) 11 0 [some (.ref 27), some (.int (nI k))] [] (shC, I2, L2, pX pa pb pu pw) = some (some (.int vc), (shC, I3, L2, pX pa pb pu pw)) ∧ jv (e + 1) 260 0 [some (.ref 0), some (.int (nI (kR k)))] [] (shR, J2, L2', pR) = some (some (.int vr), (shR, J3, L2', pR)) ∧ eW g T s nl nt lam h b rho now nc nr I L J L' now1 nc1 nr1 I1 L1 J1 L1' x y vc I3 L2 J3 L2' := by
  have hT := ok.1.1
  have hnc := ok.2.2.2.2.2.1
  obtain ⟨I2, L2, J2, L2', x, y, e1, e2, e3, e4, hh⟩ := hq
  refine ⟨I2, L2, J2, L2', x, y, e1, e2, e3, e4, ?_⟩
  rcases hh with ⟨now2, nc2, nr2, n2, k2, lt2, st2, rfl, rfl, hh⟩ | ⟨now1', nc1', now2, nr2, hf⟩
  · have st3 := eSt.trans st st2
    have b3 := st3.2.2.2.2.2.2.1
    have b4 := st3.2.2.2.1
    rcases hh with ⟨h29', hp2⟩ | ⟨h40', h29', h30'⟩
    · rcases want_ok hg ok.1 st3 h29' (show nc2 ≤ 1201 by omega) hk hk0 d e pa pb pu pw with ⟨q2, ec2, er2, lt3, st4, h294⟩ | ⟨q2, I3, J3, n1, c1, n3, r3, ec2, er2, hf⟩
      · exact ⟨_, _, _, _, ec2, er2, Or.inl ⟨now2 + 1, nc2, nr2, n2, k2, rfl, rfl, by omega, st2.2.2.2.2.1, st2.2.2.2.2.2.1, by have := st2.2.2.2.2.2.2.1; omega, by have := st2.2.2.2.2.2.2.2.1; omega, st4, st2.1.up7 hg _, st2.2.1.up28 _, h294, hp2.eqs (Nat.le_refl _) (by omega) (fun c _ => j_up_cell _ (by omega) _ _) (fun c _ => j_up_cell _ (by omega) _ _) rfl, rfl⟩⟩
      · exact ⟨_, _, _, _, ec2, er2, Or.inr ⟨_, _, _, _, rfl, hf⟩⟩
    · obtain ⟨I3, n1, c1, n3, r3, ec2, er2, hf⟩ := want_bad hg ok.1 (Or.inl ⟨now2, nc2, nr2, st3, by omega, h40', h29', h30'⟩) hk h40 d e pa pb pu pw
      exact ⟨_, _, _, _, ec2, er2, Or.inr ⟨_, _, _, _, rfl, hf⟩⟩
  · have hf1 := eF.pre st hf
    exact ⟨0, 0, I2, J2, expect_cf hf1.f.1 _, want_rf hf1.f.2 _, Or.inr ⟨_, _, _, _, rfl, hf1⟩⟩
theorem pst.later {g : Nat} {I J I2 J2 : Nat → Nat → Int32} {L' L2' : Nat → Nat → Int64} {L L2 : Nat → Nat → Int64} {h h2 : Nat} {b : Bool} {w w2 s2 s3 : Nat} {nc nc' nr nr' n k mc mr : Nat} (z : pst g I J L' nl nt lam h b w s rho nc nc' nr nr' n k) (h1 : h ≤ h2) (h3 : w ≤ w2) (c1 : eFC g s2 mc I I2 L L2) (c2 : eFR s3 mr J J2 L' L2') (m1 : nc' ≤ mc) (m2 : nr' ≤ mr) : pst g I2 J2 L2' nl nt lam h2 b w2 s rho nc nc' nr nr' n k :=
  z.frame h1 h3 (Nat.le_refl _) (Nat.le_refl _) (Nat.le_refl _) (Nat.le_refl _) (fun c hc i _ i2 => c1.2.2.1 c hc i (by omega)) (fun c hc i _ i2 => c2.2.1 c hc i (by omega)) (fun i _ i2 => c2.2.2.2.2.2.1 i (by omega))
theorem pst.wide {g : Nat} {I J : Nat → Nat → Int32} {L' : Nat → Nat → Int64} {h : Nat} {b : Bool} {w : Nat} {nc nc' nr nr' n k mc mc' mr mr' : Nat} (z : pst g I J L' nl nt lam h b w s rho nc nc' nr nr' n k) (e1 : mc ≤ nc) (e2 : nc' ≤ mc') (e3 : mr ≤ nr) (e4 : nr' ≤ mr') : pst g I J L' nl nt lam h b w s rho mc mc' mr mr' n k := z.frame (Nat.le_refl _) (Nat.le_refl _) e1 e2 e3 e4 (fun _ _ _ _ _ => rfl) (fun _ _ _ _ _ => rfl) (fun _ _ _ => rfl)
/-- behind a fault: the second reader's choice -/
theorem ch36_rf {e : Nat} {J : Nat → Nat → Int32} {L' : Nat → Nat → Int64} (h0 : J 0 29 ≠ 0) (l1 l2 l3 t : Int32) (o4 : Option Value) : jv (e + 3) 273 36 [some (.ref 0), some (.int l1), some (.int l2), some (.int l3), o4] [.int t] (shR, J, L', pR) = jv (e + 3) 273 52 [some (.ref 0), some (.int l1), some (.int l2), some (.int l3), some (.int 0)] [.int 0] (shR, J, L', pR) := by
  rw [B273_36, jgo_some (d := e + 2) rfl (sum_rf h0 _ _ _)]
  dsimp only [Option.toList_some, Option.toList_none, List.cons_append, List.nil_append]
  rw [B273_44, jgo_some (d := e + 2) rfl (want_rf h0 _)]
  rfl
theorem ch21_rf {e : Nat} {J : Nat → Nat → Int32} {L' : Nat → Nat → Int64} (h0 : J 0 29 ≠ 0) (l1 l2 t : Int32) (o3 o4 : Option Value) : jv (e + 3) 273 21 [some (.ref 0), some (.int l1), some (.int l2), o3, o4] [.int t] (shR, J, L', pR) = jv (e + 3) 273 52 [some (.ref 0), some (.int l1), some (.int l2), some (.int 0), some (.int 0)] [.int 0] (shR, J, L', pR) := by
  rw [B273_21, jgo_some (d := e + 2) rfl (sum_rf h0 _ _ _)]
  dsimp only [Option.toList_some, Option.toList_none, List.cons_append, List.nil_append]
  rw [B273_29, jgo_some (d := e + 2) rfl (want_rf h0 _)]
  dsimp only [Option.toList_some, Option.toList_none, List.cons_append, List.nil_append]
  rw [ch36_rf h0]
theorem ch6_rf {e : Nat} {J : Nat → Nat → Int32} {L' : Nat → Nat → Int64} (h0 : J 0 29 ≠ 0) (l1 t : Int32) (o2 o3 o4 : Option Value) : jv (e + 3) 273 6 [some (.ref 0), some (.int l1), o2, o3, o4] [.int t] (shR, J, L', pR) = jv (e + 3) 273 52 [some (.ref 0), some (.int l1), some (.int 0), some (.int 0), some (.int 0)] [.int 0] (shR, J, L', pR) := by
  rw [B273_6, jgo_some (d := e + 2) rfl (or_rf h0 _ _)]
  dsimp only [Option.toList_some, Option.toList_none, List.cons_append, List.nil_append]
  rw [B273_14, jgo_some (d := e + 2) rfl (want_rf h0 _)]
  dsimp only [Option.toList_some, Option.toList_none, List.cons_append, List.nil_append]
  rw [ch21_rf h0]
theorem ch46_cf38 {d : Nat} {I : Nat → Nat → Int32} {L : Nat → Nat → Int64} (h0 : I 27 0 ≠ 0) (l1 l2 l3 t : Int32) (o4 : Option Value) : jv (d + 4) 29 46 [some (.ref 27), some (.int l1), some (.int l2), some (.int l3), o4] [.int t] (shC, I, L, pX pa pb (some 38) pw) = jv (d + 4) 29 62 [some (.ref 27), some (.int l1), some (.int l2), some (.int l3), some (.int (-1))] [.int 0] (shC, I, L, pX pa pb (some 38) pw) := by
  rw [B29_46_g38, jgo_some (d := d + 3) rfl (sum_cf38 h0 _ _ _ _ _ _)]
  dsimp only [Option.toList_some, Option.toList_none, List.cons_append, List.nil_append]
  rw [B29_54_g38, jgo_some (d := d + 3) rfl (expect_cf (d := d + 2) h0 _)]
  rfl
theorem ch31_cf38 {d : Nat} {I : Nat → Nat → Int32} {L : Nat → Nat → Int64} (h0 : I 27 0 ≠ 0) (l1 l2 t : Int32) (o3 o4 : Option Value) : jv (d + 4) 29 31 [some (.ref 27), some (.int l1), some (.int l2), o3, o4] [.int t] (shC, I, L, pX pa pb (some 38) pw) = jv (d + 4) 29 62 [some (.ref 27), some (.int l1), some (.int l2), some (.int (-1)), some (.int (-1))] [.int 0] (shC, I, L, pX pa pb (some 38) pw) := by
  rw [B29_31_g38, jgo_some (d := d + 3) rfl (sum_cf38 h0 _ _ _ _ _ _)]
  dsimp only [Option.toList_some, Option.toList_none, List.cons_append, List.nil_append]
  rw [B29_39_g38, jgo_some (d := d + 3) rfl (expect_cf (d := d + 2) h0 _)]
  dsimp only [Option.toList_some, Option.toList_none, List.cons_append, List.nil_append]
  rw [ch46_cf38 h0]
theorem ch16_cf38 {d now nc : Nat} {I : Nat → Nat → Int32} {L : Nat → Nat → Int64} (h0 : I 27 0 ≠ 0) (h7 : I 27 7 = nI now) (hn : now ≤ 1200) (hg : I 38 10 = nI nc) (hc : nc ≤ 1201) (l1 t : Int32) (o2 o3 o4 : Option Value) : ∃ x I', jv (d + 7) 29 16 [some (.ref 27), some (.int l1), o2, o3, o4] [.int t] (shC, I, L, pX pa pb (some 38) pw) = jv (d + 7) 29 62 [some (.ref 27), some (.int l1), some (.int x), some (.int (-1)), some (.int (-1))] [.int 0] (shC, I', L, pX pa pb (some 38) pw) ∧ cfr 38 nc I I' := by
  obtain ⟨x, I1, e1, e2⟩ := cond_cf38 (d := d) (L := L) (pa := pa) (pb := pb) (pw := pw) h0 h7 hn hg hc (l1 + 1) none none none none
  have h0' : I1 27 0 ≠ 0 := by rw [e2.1 27 (by omega)]; exact h0
  refine ⟨x, I1, ?_, e2⟩
  rw [B29_16_g38, jgo_some (d := d + 6) rfl e1]
  dsimp only [Option.toList_some, Option.toList_none, List.cons_append, List.nil_append]
  rw [B29_24_g38, jgo_some (d := d + 6) rfl (expect_cf (d := d + 5) h0' _)]
  dsimp only [Option.toList_some, Option.toList_none, List.cons_append, List.nil_append]
  rw [ch31_cf38 (d := d + 3) h0']
theorem choice_sim38 {d e h : Nat} {D D' : Int32} (Hc : ∀ (I : Nat → Nat → Int32) (L : Nat → Nat → Int64) (J : Nat → Nat → Int32) (L' : Nat → Nat → Int64) (now nc nr : Nat), pOk 38 T K P W U Q nm kd nb nl nt nu s cw rho now nc nr I L J L' → jW2 (jv (d + 6) 21 0 [some (.ref 27), some (.int (D + 1)), none, none, none, none] [] (shC, I, L, pX pa pb (some 38) pw)) (jv (e + 6) 267 0 [some (.ref 0), some (.int (D' + 1)), none] [] (shR, J, L', pR)) (eQ 38 T K P nl nt lam s rho h false now nc nr I L J L' (pX pa pb (some 38) pw))) (Hs : ∀ (I : Nat → Nat → Int32) (L : Nat → Nat → Int64) (J : Nat → Nat → Int32) (L' : Nat → Nat → Int64) (now nc nr : Nat), pOk 38 T K P W U Q nm kd nb nl nt nu s cw rho now nc nr I L J L' → jW2 (jv (d + 6) 25 0 [some (.ref 27), some (.int (D + 1)), none, none, none, none, none] [] (shC, I, L, pX pa pb (some 38) pw)) (jv (e + 6) 270 0 [some (.ref 0), some (.int (D' + 1)), none, none] [] (shR, J, L', pR)) (eQ 38 T K P nl nt lam s rho h true now nc nr I L J L' (pX pa pb (some 38) pw))) {I J : Nat → Nat → Int32} {L L' : Nat → Nat → Int64} {now nc nr : Nat} (ok : pOk 38 T K P W U Q nm kd nb nl nt nu s cw rho now nc nr I L J L') (hK : now < T) : jW2 (jv (d + 7) 29 0 [some (.ref 27), some (.int D), none, none, none] [] (shC, I, L, pX pa pb (some 38) pw)) (jv (e + 7) 273 0 [some (.ref 0), some (.int D'), none, none, none] [] (shR, j_up J 0 28 (nI (now + 1)), L', pR)) (eQ 38 T K P nl nt lam s rho (h + 1) true now nc nr I L J L' (pX pa pb (some 38) pw)) := by
  have hg : 38 = 38 ∨ 38 = 49 := by decide
  obtain ⟨tk, kw, hN, hC, a5, a6, a7, a8, a9, a10, a11, a12, a13⟩ := id ok
  have hT := ok.1.1
  have st1 := eSt.adv hg ok.st hK
  have ok1 : pOk 38 T K P W U Q nm kd nb nl nt nu s cw rho (now + 1) nc nr (j_up I 27 7 (nI (now + 1))) L (j_up J 0 28 (nI (now + 1))) L' := eSt.ok hg ok st1 (by rw [j_up_own, if_neg (by decide)]; exact a9)
  rw [B29_0_g38, B273_0, a10, show nI now + 1 = nI (now + 1) from nI_add now 1]
  revert st1 ok1
  generalize j_up I 27 7 (nI (now + 1)) = Ia
  generalize j_up J 0 28 (nI (now + 1)) = Ja
  intro st1 ok1
  -- both add the node
  have fin : ∀ (x y z x' y' z' t t' : Int32) (I5 J5 : Nat → Nat → Int32) (L5 L5' : Nat → Nat → Int64), ((∃ now5 nc5 nr5 n1 k1 n2 k2 n3 k3, x = nI n1 ∧ x' = nI k1 ∧ y = nI n2 ∧ y' = nI k2 ∧ z = nI n3 ∧ z' = nI k3 ∧ eSt 38 T s (now + 1) nc nr Ia L Ja L' now5 nc5 nr5 I5 L5 J5 L5' ∧ J5 0 29 = 0 ∧ now + 2 < now5 ∧ pst 38 I5 J5 L5' nl nt lam h false (lam + (now5 - now - 2)) s rho nc nc5 nr nr5 n1 k1 ∧ pst 38 I5 J5 L5' nl nt lam h true (lam + (now5 - now - 2)) s rho nc nc5 nr nr5 n2 k2 ∧ pst 38 I5 J5 L5' nl nt lam h true (lam + (now5 - now - 2)) s rho nc nc5 nr nr5 n3 k3) ∨ ∃ m1 c1 m2 r2, eF 38 T s (now + 1) nc nr Ia L Ja L' m1 c1 m2 r2 I5 L5 J5 L5') → jW2 (jv (d + 7) 29 62 [some (.ref 27), some (.int D), some (.int x), some (.int y), some (.int z)] [.int t] (shC, I5, L5, pX pa pb (some 38) pw)) (jv (e + 7) 273 52 [some (.ref 0), some (.int D'), some (.int x'), some (.int y'), some (.int z')] [.int t'] (shR, J5, L5', pR)) (eQ 38 T K P nl nt lam s rho (h + 1) true now nc nr I L J L' (pX pa pb (some 38) pw)) := by
    intro x y z x' y' z' t t' I5 J5 L5 L5' hh
    rw [B29_62_g38, B273_52]
    refine addB38 (d := d + 6) (e := e + 6) (h := h + 1) (b2 := true) (lam := lam) ok _ _ _ _ _ _ _ _ _ ?_ _ _ _ (fun x' S y' S' hz => by
      obtain ⟨I3, L3, J3, L3', x3, y3, e1, e2, rfl, rfl, _⟩ := id hz
      dsimp only [Option.toList_some, Option.toList_none, List.cons_append, List.nil_append]
      rw [B29_77_g38, B273_64]
      exact jW2_some hz)
    rcases hh with ⟨now5, nc5, nr5, n1, k1, n2, k2, n3, k3, rfl, rfl, rfl, rfl, rfl, rfl, st5, h29, lt5, p1, p2, p3⟩ | ⟨m1, c1, m2, r2, hf⟩
    · obtain ⟨_, _, e3, e4, e5, e6, e7, e8, _⟩ := id st5
      refine Or.inl ⟨now5, nc5, nr5, by omega, eSt.trans st1 st5, by omega, by omega, Or.inl ⟨h29, ?_⟩⟩
      exact pst.upG (Zp := fun C R V => rel C R V nl nt lam h false (lam + (now5 - now - 2)) s rho n1 k1 ∧ rel C R V nl nt lam h true (lam + (now5 - now - 2)) s rho n2 k2 ∧ rel C R V nl nt lam h true (lam + (now5 - now - 2)) s rho n3 k3) (w := lam + (now5 - now - 2)) (fun C R V c1 c2 c3 => ⟨p1 C R V c1 c2 c3, p2 C R V c1 c2 c3, p3 C R V c1 c2 c3⟩) (by omega) (by omega) (by omega) (by omega) (by omega) _ _ _ _ _ _ _ _ _ _ (fun C R V c0 c1 c2 c3' c4 r0 r1 r2 r3 v0 z => Or.inl ⟨rfl, Or.inr (Or.inr (Or.inr (Or.inr (Or.inr (Or.inr (Or.inr (Or.inl ⟨c0, r0, n1, k1, n2, k2, n3, k3, c1, r1, z.1, c2, r2, z.2.1, c3', r3, z.2.2⟩)))))))⟩)
    · have q6 := hf.2.2.2.2.2.2.2.2.2.2.2.2.1
      exact Or.inr ⟨m1, c1, m2, r2, eF.pre st1 hf, by omega⟩
  rcases want_ok hg ok1.1 ok1.st ok1.2.2.2.2.2.2.2.2.1 (show nc ≤ 1201 by omega) (k := 40) (by decide) (by decide) (d + 5) (e + 5) pa pb (some 38) pw with ⟨q, ec, er, lt, st2, h29⟩ | ⟨q, I2, J2, n1, c1, n2, r2, ec, er, hf⟩
  case inr =>
    rw [show (40 : Int32) = nI 40 from rfl, jgo_some (d := d + 6) rfl ec, show nI 40 = nI (kR 40) from rfl, jgo_some (d := e + 6) rfl er]
    dsimp only [Option.toList_some, Option.toList_none, List.cons_append, List.nil_append]
    obtain ⟨x, I3, g1, g2⟩ := ch16_cf38 (d := d) (L := L) (pa := pa) (pb := pb) (pw := pw) hf.f.1 hf.2.2.2.2.1 (by have := hf.2.2.2.1; omega) hf.2.2.2.2.2.2.2.1 hf.2.2.2.2.2.2.1 D 0 none none none
    obtain ⟨nc3, hf3⟩ := eF.chg hg hf (g2.le hf.2.2.2.2.2.1) hf.2.2.2.2.2.2.2.1
    rw [g1, ch6_rf (e := e + 4) hf.f.2]
    exact fin _ _ _ _ _ _ _ _ _ _ _ _ (Or.inr ⟨_, _, _, _, hf3⟩)
  rw [show (40 : Int32) = nI 40 from rfl, jgo_some (d := d + 6) rfl ec, show nI 40 = nI (kR 40) from rfl, jgo_some (d := e + 6) rfl er]
  dsimp only [Option.toList_some, Option.toList_none, List.cons_append, List.nil_append]
  rw [B29_16_g38, B273_6]
  have ok2 := eSt.ok hg ok1 st2 h29
  refine jW2_go rfl rfl (Hc _ _ _ _ _ _ _ ok2) ?_
  intro v S w S' hq
  obtain ⟨I3, L3, J3, L3', x, y, rfl, rfl, rfl, rfl, vc, vr, I4, J4, ec3, er3, hw⟩ := eQ.w (d := d + 5) (e := e + 5) hg ok1 st2 hq (k := 44) (by decide) (by decide) (by decide)
  dsimp only [Option.toList_some, Option.toList_none, List.cons_append, List.nil_append]
  rw [B29_24_g38, B273_14, show (44 : Int32) = nI 44 from rfl, jgo_some (d := d + 6) rfl ec3, show nI 44 = nI (kR 44) from rfl, jgo_some (d := e + 6) rfl er3]
  dsimp only [Option.toList_some, Option.toList_none, List.cons_append, List.nil_append]
  rcases hw with ⟨now3, nc3, nr3, n1, k1, rfl, rfl, lt3, gc3, gr3, hc3, hr3, st3, fc3, fr3, h293, p3, v3⟩ | ⟨m1, c1, m2, r2, v0, hf⟩
  case inr =>
    rw [ch31_cf38 (d := d + 3) hf.f.1, ch21_rf (e := e + 4) hf.f.2]
    exact fin _ _ _ _ _ _ _ _ _ _ _ _ (Or.inr ⟨_, _, _, _, hf⟩)
  rw [B29_31_g38, B273_21]
  have ok3 := eSt.ok hg ok1 st3 h293
  refine jW2_go rfl rfl (Hs _ _ _ _ _ _ _ ok3) ?_
  intro v S w S' hq
  obtain ⟨I5, L5, J5, L5', x, y, rfl, rfl, rfl, rfl, vc5, vr5, I6, J6, ec5, er5, hw⟩ := eQ.w (d := d + 5) (e := e + 5) hg ok1 st3 hq (k := 44) (by decide) (by decide) (by decide)
  dsimp only [Option.toList_some, Option.toList_none, List.cons_append, List.nil_append]
  rw [B29_39_g38, B273_29, show (44 : Int32) = nI 44 from rfl, jgo_some (d := d + 6) rfl ec5, show nI 44 = nI (kR 44) from rfl, jgo_some (d := e + 6) rfl er5]
  dsimp only [Option.toList_some, Option.toList_none, List.cons_append, List.nil_append]
  rcases hw with ⟨now5, nc5, nr5, n2, k2, rfl, rfl, lt5, gc5, gr5, hc5, hr5, st5, fc5, fr5, h295, p5, v5⟩ | ⟨m1, c1, m2, r2, v0, hf⟩
  case inr =>
    rw [ch46_cf38 (d := d + 3) hf.f.1, ch36_rf (e := e + 4) hf.f.2]
    exact fin _ _ _ _ _ _ _ _ _ _ _ _ (Or.inr ⟨_, _, _, _, hf⟩)
  rw [B29_46_g38, B273_36]
  have ok5 := eSt.ok hg ok1 st5 h295
  refine jW2_go rfl rfl (Hs _ _ _ _ _ _ _ ok5) ?_
  intro v S w S' hq
  obtain ⟨I7, L7, J7, L7', x, y, rfl, rfl, rfl, rfl, vc7, vr7, I8, J8, ec7, er7, hw⟩ := eQ.w (d := d + 5) (e := e + 5) hg ok1 st5 hq (k := 41) (by decide) (by decide) (by decide)
  dsimp only [Option.toList_some, Option.toList_none, List.cons_append, List.nil_append]
  rw [B29_54_g38, B273_44, show (41 : Int32) = nI 41 from rfl, jgo_some (d := d + 6) rfl ec7, show nI 41 = nI (kR 41) from rfl, jgo_some (d := e + 6) rfl er7]
  dsimp only [Option.toList_some, Option.toList_none, List.cons_append, List.nil_append]
  rcases hw with ⟨now7, nc7, nr7, n3, k3, rfl, rfl, lt7, gc7, gr7, hc7, hr7, st7, fc7, fr7, h297, p7, v7⟩ | ⟨m1, c1, m2, r2, v0, hf⟩
  case inr => exact fin _ _ _ _ _ _ _ _ _ _ _ _ (Or.inr ⟨_, _, _, _, hf⟩)
  have p3' := (p3.later (h2 := h) (w2 := lam + (now7 - now - 2)) (Nat.le_refl _) (by omega) fc5 fr5 (Nat.le_refl _) (Nat.le_refl _)).later (h2 := h) (w2 := lam + (now7 - now - 2)) (Nat.le_refl _) (Nat.le_refl _) fc7 fr7 gc5 gr5
  have p5' := p5.later (h2 := h) (w2 := lam + (now7 - now - 2)) (Nat.le_refl _) (by omega) fc7 fr7 (Nat.le_refl _) (Nat.le_refl _)
  exact fin _ _ _ _ _ _ _ _ _ _ _ _ (Or.inl ⟨now7, nc7, nr7, n1, k1, n2, k2, n3, k3, rfl, rfl, rfl, rfl, rfl, rfl, st7, h297, by omega, p3'.wide (by omega) (by omega) (by omega) (by omega), p5'.wide (by omega) (by omega) (by omega) (by omega), (p7.wide (by omega) (by omega) (by omega) (by omega)).eqs (Nat.le_refl _) (by omega) (fun _ _ => rfl) (fun _ _ => rfl) rfl⟩)
theorem ch46_cf49 {d : Nat} {I : Nat → Nat → Int32} {L : Nat → Nat → Int64} (h0 : I 27 0 ≠ 0) (l1 l2 l3 t : Int32) (o4 : Option Value) : jv (d + 4) 29 46 [some (.ref 27), some (.int l1), some (.int l2), some (.int l3), o4] [.int t] (shC, I, L, pX pa pb (some 49) pw) = jv (d + 4) 29 62 [some (.ref 27), some (.int l1), some (.int l2), some (.int l3), some (.int (-1))] [.int 0] (shC, I, L, pX pa pb (some 49) pw) := by
  rw [B29_46_g49, jgo_some (d := d + 3) rfl (sum_cf49 h0 _ _ _ _ _ _)]
  dsimp only [Option.toList_some, Option.toList_none, List.cons_append, List.nil_append]
  rw [B29_54_g49, jgo_some (d := d + 3) rfl (expect_cf (d := d + 2) h0 _)]
  rfl
theorem ch31_cf49 {d : Nat} {I : Nat → Nat → Int32} {L : Nat → Nat → Int64} (h0 : I 27 0 ≠ 0) (l1 l2 t : Int32) (o3 o4 : Option Value) : jv (d + 4) 29 31 [some (.ref 27), some (.int l1), some (.int l2), o3, o4] [.int t] (shC, I, L, pX pa pb (some 49) pw) = jv (d + 4) 29 62 [some (.ref 27), some (.int l1), some (.int l2), some (.int (-1)), some (.int (-1))] [.int 0] (shC, I, L, pX pa pb (some 49) pw) := by
  rw [B29_31_g49, jgo_some (d := d + 3) rfl (sum_cf49 h0 _ _ _ _ _ _)]
  dsimp only [Option.toList_some, Option.toList_none, List.cons_append, List.nil_append]
  rw [B29_39_g49, jgo_some (d := d + 3) rfl (expect_cf (d := d + 2) h0 _)]
  dsimp only [Option.toList_some, Option.toList_none, List.cons_append, List.nil_append]
  rw [ch46_cf49 h0]
theorem ch16_cf49 {d now nc : Nat} {I : Nat → Nat → Int32} {L : Nat → Nat → Int64} (h0 : I 27 0 ≠ 0) (h7 : I 27 7 = nI now) (hn : now ≤ 1200) (hg : I 49 10 = nI nc) (hc : nc ≤ 1201) (l1 t : Int32) (o2 o3 o4 : Option Value) : ∃ x I', jv (d + 7) 29 16 [some (.ref 27), some (.int l1), o2, o3, o4] [.int t] (shC, I, L, pX pa pb (some 49) pw) = jv (d + 7) 29 62 [some (.ref 27), some (.int l1), some (.int x), some (.int (-1)), some (.int (-1))] [.int 0] (shC, I', L, pX pa pb (some 49) pw) ∧ cfr 49 nc I I' := by
  obtain ⟨x, I1, e1, e2⟩ := cond_cf49 (d := d) (L := L) (pa := pa) (pb := pb) (pw := pw) h0 h7 hn hg hc (l1 + 1) none none none none
  have h0' : I1 27 0 ≠ 0 := by rw [e2.1 27 (by omega)]; exact h0
  refine ⟨x, I1, ?_, e2⟩
  rw [B29_16_g49, jgo_some (d := d + 6) rfl e1]
  dsimp only [Option.toList_some, Option.toList_none, List.cons_append, List.nil_append]
  rw [B29_24_g49, jgo_some (d := d + 6) rfl (expect_cf (d := d + 5) h0' _)]
  dsimp only [Option.toList_some, Option.toList_none, List.cons_append, List.nil_append]
  rw [ch31_cf49 (d := d + 3) h0']
theorem choice_sim49 {d e h : Nat} {D D' : Int32} (Hc : ∀ (I : Nat → Nat → Int32) (L : Nat → Nat → Int64) (J : Nat → Nat → Int32) (L' : Nat → Nat → Int64) (now nc nr : Nat), pOk 49 T K P W U Q nm kd nb nl nt nu s cw rho now nc nr I L J L' → jW2 (jv (d + 6) 21 0 [some (.ref 27), some (.int (D + 1)), none, none, none, none] [] (shC, I, L, pX pa pb (some 49) pw)) (jv (e + 6) 267 0 [some (.ref 0), some (.int (D' + 1)), none] [] (shR, J, L', pR)) (eQ 49 T K P nl nt lam s rho h false now nc nr I L J L' (pX pa pb (some 49) pw))) (Hs : ∀ (I : Nat → Nat → Int32) (L : Nat → Nat → Int64) (J : Nat → Nat → Int32) (L' : Nat → Nat → Int64) (now nc nr : Nat), pOk 49 T K P W U Q nm kd nb nl nt nu s cw rho now nc nr I L J L' → jW2 (jv (d + 6) 25 0 [some (.ref 27), some (.int (D + 1)), none, none, none, none, none] [] (shC, I, L, pX pa pb (some 49) pw)) (jv (e + 6) 270 0 [some (.ref 0), some (.int (D' + 1)), none, none] [] (shR, J, L', pR)) (eQ 49 T K P nl nt lam s rho h true now nc nr I L J L' (pX pa pb (some 49) pw))) {I J : Nat → Nat → Int32} {L L' : Nat → Nat → Int64} {now nc nr : Nat} (ok : pOk 49 T K P W U Q nm kd nb nl nt nu s cw rho now nc nr I L J L') (hK : now < T) : jW2 (jv (d + 7) 29 0 [some (.ref 27), some (.int D), none, none, none] [] (shC, I, L, pX pa pb (some 49) pw)) (jv (e + 7) 273 0 [some (.ref 0), some (.int D'), none, none, none] [] (shR, j_up J 0 28 (nI (now + 1)), L', pR)) (eQ 49 T K P nl nt lam s rho (h + 1) true now nc nr I L J L' (pX pa pb (some 49) pw)) := by
  have hg : 49 = 38 ∨ 49 = 49 := by decide
  obtain ⟨tk, kw, hN, hC, a5, a6, a7, a8, a9, a10, a11, a12, a13⟩ := id ok
  have hT := ok.1.1
  have st1 := eSt.adv hg ok.st hK
  have ok1 : pOk 49 T K P W U Q nm kd nb nl nt nu s cw rho (now + 1) nc nr (j_up I 27 7 (nI (now + 1))) L (j_up J 0 28 (nI (now + 1))) L' := eSt.ok hg ok st1 (by rw [j_up_own, if_neg (by decide)]; exact a9)
  rw [B29_0_g49, B273_0, a10, show nI now + 1 = nI (now + 1) from nI_add now 1]
  revert st1 ok1
  generalize j_up I 27 7 (nI (now + 1)) = Ia
  generalize j_up J 0 28 (nI (now + 1)) = Ja
  intro st1 ok1
  -- both add the node
  have fin : ∀ (x y z x' y' z' t t' : Int32) (I5 J5 : Nat → Nat → Int32) (L5 L5' : Nat → Nat → Int64), ((∃ now5 nc5 nr5 n1 k1 n2 k2 n3 k3, x = nI n1 ∧ x' = nI k1 ∧ y = nI n2 ∧ y' = nI k2 ∧ z = nI n3 ∧ z' = nI k3 ∧ eSt 49 T s (now + 1) nc nr Ia L Ja L' now5 nc5 nr5 I5 L5 J5 L5' ∧ J5 0 29 = 0 ∧ now + 2 < now5 ∧ pst 49 I5 J5 L5' nl nt lam h false (lam + (now5 - now - 2)) s rho nc nc5 nr nr5 n1 k1 ∧ pst 49 I5 J5 L5' nl nt lam h true (lam + (now5 - now - 2)) s rho nc nc5 nr nr5 n2 k2 ∧ pst 49 I5 J5 L5' nl nt lam h true (lam + (now5 - now - 2)) s rho nc nc5 nr nr5 n3 k3) ∨ ∃ m1 c1 m2 r2, eF 49 T s (now + 1) nc nr Ia L Ja L' m1 c1 m2 r2 I5 L5 J5 L5') → jW2 (jv (d + 7) 29 62 [some (.ref 27), some (.int D), some (.int x), some (.int y), some (.int z)] [.int t] (shC, I5, L5, pX pa pb (some 49) pw)) (jv (e + 7) 273 52 [some (.ref 0), some (.int D'), some (.int x'), some (.int y'), some (.int z')] [.int t'] (shR, J5, L5', pR)) (eQ 49 T K P nl nt lam s rho (h + 1) true now nc nr I L J L' (pX pa pb (some 49) pw)) := by
    intro x y z x' y' z' t t' I5 J5 L5 L5' hh
    rw [B29_62_g49, B273_52]
    refine addB49 (d := d + 6) (e := e + 6) (h := h + 1) (b2 := true) (lam := lam) ok _ _ _ _ _ _ _ _ _ ?_ _ _ _ (fun x' S y' S' hz => by
      obtain ⟨I3, L3, J3, L3', x3, y3, e1, e2, rfl, rfl, _⟩ := id hz
      dsimp only [Option.toList_some, Option.toList_none, List.cons_append, List.nil_append]
      rw [B29_77_g49, B273_64]
      exact jW2_some hz)
    rcases hh with ⟨now5, nc5, nr5, n1, k1, n2, k2, n3, k3, rfl, rfl, rfl, rfl, rfl, rfl, st5, h29, lt5, p1, p2, p3⟩ | ⟨m1, c1, m2, r2, hf⟩
    · obtain ⟨_, _, e3, e4, e5, e6, e7, e8, _⟩ := id st5
      refine Or.inl ⟨now5, nc5, nr5, by omega, eSt.trans st1 st5, by omega, by omega, Or.inl ⟨h29, ?_⟩⟩
      exact pst.upG (Zp := fun C R V => rel C R V nl nt lam h false (lam + (now5 - now - 2)) s rho n1 k1 ∧ rel C R V nl nt lam h true (lam + (now5 - now - 2)) s rho n2 k2 ∧ rel C R V nl nt lam h true (lam + (now5 - now - 2)) s rho n3 k3) (w := lam + (now5 - now - 2)) (fun C R V c1 c2 c3 => ⟨p1 C R V c1 c2 c3, p2 C R V c1 c2 c3, p3 C R V c1 c2 c3⟩) (by omega) (by omega) (by omega) (by omega) (by omega) _ _ _ _ _ _ _ _ _ _ (fun C R V c0 c1 c2 c3' c4 r0 r1 r2 r3 v0 z => Or.inl ⟨rfl, Or.inr (Or.inr (Or.inr (Or.inr (Or.inr (Or.inr (Or.inr (Or.inl ⟨c0, r0, n1, k1, n2, k2, n3, k3, c1, r1, z.1, c2, r2, z.2.1, c3', r3, z.2.2⟩)))))))⟩)
    · have q6 := hf.2.2.2.2.2.2.2.2.2.2.2.2.1
      exact Or.inr ⟨m1, c1, m2, r2, eF.pre st1 hf, by omega⟩
  rcases want_ok hg ok1.1 ok1.st ok1.2.2.2.2.2.2.2.2.1 (show nc ≤ 1201 by omega) (k := 40) (by decide) (by decide) (d + 5) (e + 5) pa pb (some 49) pw with ⟨q, ec, er, lt, st2, h29⟩ | ⟨q, I2, J2, n1, c1, n2, r2, ec, er, hf⟩
  case inr =>
    rw [show (40 : Int32) = nI 40 from rfl, jgo_some (d := d + 6) rfl ec, show nI 40 = nI (kR 40) from rfl, jgo_some (d := e + 6) rfl er]
    dsimp only [Option.toList_some, Option.toList_none, List.cons_append, List.nil_append]
    obtain ⟨x, I3, g1, g2⟩ := ch16_cf49 (d := d) (L := L) (pa := pa) (pb := pb) (pw := pw) hf.f.1 hf.2.2.2.2.1 (by have := hf.2.2.2.1; omega) hf.2.2.2.2.2.2.2.1 hf.2.2.2.2.2.2.1 D 0 none none none
    obtain ⟨nc3, hf3⟩ := eF.chg hg hf (g2.le hf.2.2.2.2.2.1) hf.2.2.2.2.2.2.2.1
    rw [g1, ch6_rf (e := e + 4) hf.f.2]
    exact fin _ _ _ _ _ _ _ _ _ _ _ _ (Or.inr ⟨_, _, _, _, hf3⟩)
  rw [show (40 : Int32) = nI 40 from rfl, jgo_some (d := d + 6) rfl ec, show nI 40 = nI (kR 40) from rfl, jgo_some (d := e + 6) rfl er]
  dsimp only [Option.toList_some, Option.toList_none, List.cons_append, List.nil_append]
  rw [B29_16_g49, B273_6]
  have ok2 := eSt.ok hg ok1 st2 h29
  refine jW2_go rfl rfl (Hc _ _ _ _ _ _ _ ok2) ?_
  intro v S w S' hq
  obtain ⟨I3, L3, J3, L3', x, y, rfl, rfl, rfl, rfl, vc, vr, I4, J4, ec3, er3, hw⟩ := eQ.w (d := d + 5) (e := e + 5) hg ok1 st2 hq (k := 44) (by decide) (by decide) (by decide)
  dsimp only [Option.toList_some, Option.toList_none, List.cons_append, List.nil_append]
  rw [B29_24_g49, B273_14, show (44 : Int32) = nI 44 from rfl, jgo_some (d := d + 6) rfl ec3, show nI 44 = nI (kR 44) from rfl, jgo_some (d := e + 6) rfl er3]
  dsimp only [Option.toList_some, Option.toList_none, List.cons_append, List.nil_append]
  rcases hw with ⟨now3, nc3, nr3, n1, k1, rfl, rfl, lt3, gc3, gr3, hc3, hr3, st3, fc3, fr3, h293, p3, v3⟩ | ⟨m1, c1, m2, r2, v0, hf⟩
  case inr =>
    rw [ch31_cf49 (d := d + 3) hf.f.1, ch21_rf (e := e + 4) hf.f.2]
    exact fin _ _ _ _ _ _ _ _ _ _ _ _ (Or.inr ⟨_, _, _, _, hf⟩)
  rw [B29_31_g49, B273_21]
  have ok3 := eSt.ok hg ok1 st3 h293
  refine jW2_go rfl rfl (Hs _ _ _ _ _ _ _ ok3) ?_
  intro v S w S' hq
  obtain ⟨I5, L5, J5, L5', x, y, rfl, rfl, rfl, rfl, vc5, vr5, I6, J6, ec5, er5, hw⟩ := eQ.w (d := d + 5) (e := e + 5) hg ok1 st3 hq (k := 44) (by decide) (by decide) (by decide)
  dsimp only [Option.toList_some, Option.toList_none, List.cons_append, List.nil_append]
  rw [B29_39_g49, B273_29, show (44 : Int32) = nI 44 from rfl, jgo_some (d := d + 6) rfl ec5, show nI 44 = nI (kR 44) from rfl, jgo_some (d := e + 6) rfl er5]
  dsimp only [Option.toList_some, Option.toList_none, List.cons_append, List.nil_append]
  rcases hw with ⟨now5, nc5, nr5, n2, k2, rfl, rfl, lt5, gc5, gr5, hc5, hr5, st5, fc5, fr5, h295, p5, v5⟩ | ⟨m1, c1, m2, r2, v0, hf⟩
  case inr =>
    rw [ch46_cf49 (d := d + 3) hf.f.1, ch36_rf (e := e + 4) hf.f.2]
    exact fin _ _ _ _ _ _ _ _ _ _ _ _ (Or.inr ⟨_, _, _, _, hf⟩)
  rw [B29_46_g49, B273_36]
  have ok5 := eSt.ok hg ok1 st5 h295
  refine jW2_go rfl rfl (Hs _ _ _ _ _ _ _ ok5) ?_
  intro v S w S' hq
  obtain ⟨I7, L7, J7, L7', x, y, rfl, rfl, rfl, rfl, vc7, vr7, I8, J8, ec7, er7, hw⟩ := eQ.w (d := d + 5) (e := e + 5) hg ok1 st5 hq (k := 41) (by decide) (by decide) (by decide)
  dsimp only [Option.toList_some, Option.toList_none, List.cons_append, List.nil_append]
  rw [B29_54_g49, B273_44, show (41 : Int32) = nI 41 from rfl, jgo_some (d := d + 6) rfl ec7, show nI 41 = nI (kR 41) from rfl, jgo_some (d := e + 6) rfl er7]
  dsimp only [Option.toList_some, Option.toList_none, List.cons_append, List.nil_append]
  rcases hw with ⟨now7, nc7, nr7, n3, k3, rfl, rfl, lt7, gc7, gr7, hc7, hr7, st7, fc7, fr7, h297, p7, v7⟩ | ⟨m1, c1, m2, r2, v0, hf⟩
  case inr => exact fin _ _ _ _ _ _ _ _ _ _ _ _ (Or.inr ⟨_, _, _, _, hf⟩)
  have p3' := (p3.later (h2 := h) (w2 := lam + (now7 - now - 2)) (Nat.le_refl _) (by omega) fc5 fr5 (Nat.le_refl _) (Nat.le_refl _)).later (h2 := h) (w2 := lam + (now7 - now - 2)) (Nat.le_refl _) (Nat.le_refl _) fc7 fr7 gc5 gr5
  have p5' := p5.later (h2 := h) (w2 := lam + (now7 - now - 2)) (Nat.le_refl _) (by omega) fc7 fr7 (Nat.le_refl _) (Nat.le_refl _)
  exact fin _ _ _ _ _ _ _ _ _ _ _ _ (Or.inl ⟨now7, nc7, nr7, n1, k1, n2, k2, n3, k3, rfl, rfl, rfl, rfl, rfl, rfl, st7, h297, by omega, p3'.wide (by omega) (by omega) (by omega) (by omega), p5'.wide (by omega) (by omega) (by omega) (by omega), (p7.wide (by omega) (by omega) (by omega) (by omega)).eqs (Nat.le_refl _) (by omega) (fun _ _ => rfl) (fun _ _ => rfl) rfl⟩)
end PARO
