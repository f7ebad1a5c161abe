/-! RULES: the state of both readers -/
section PARE
variable {I J : Nat → Nat → Int32} {L L' : Nat → Nat → Int64}
/-- the names told so far: Q of them; lets, tables, rules -/
def nmS (Q : Nat) (nm : Nat → List Nat) (kd nb : Nat → Nat) (nl nt nu : Nat) (I : Nat → Nat → Int32) (L : Nat → Nat → Int64) (J : Nat → Nat → Int32) (L' : Nat → Nat → Int64) : Prop :=
  Q ≤ 72 ∧ I 27 14 = nI Q ∧ nl ≤ 40 ∧ nt ≤ 8 ∧ nu ≤ 24 ∧ J 0 39 = nI nl ∧ J 0 46 = nI nt ∧ J 0 49 = nI nu ∧
  (∀ q, q < Q → okW (nm q) ∧ L 31 q = lgN (nC (nm q)) ∧ I 32 q = nI (kd q) ∧ I 33 q = nI (nb q) ∧ ((kd q = 2 ∧ nb q < nl ∧ L' 26 (nb q) = lgN (nR (nm q))) ∨ (kd q = 3 ∧ nb q < nt ∧ L' 28 (nb q) = lgN (nR (nm q))) ∨ (kd q = 14 ∧ nb q < nu ∧ L' 33 (nb q) = lgN (nR (nm q))))) ∧
  (∀ i, i < nl → ∃ q, q < Q ∧ kd q = 2 ∧ nb q = i) ∧ (∀ i, i < nt → ∃ q, q < Q ∧ kd q = 3 ∧ nb q = i) ∧ (∀ i, i < nu → ∃ q, q < Q ∧ kd q = 14 ∧ nb q = i) ∧ (∀ q r, q < Q → r < Q → nm q = nm r → q = r)
/-- the counters about: s of them -/
def cnS (s : Nat) (cw : Nat → List Nat) (rho : Nat → Nat) (I : Nat → Nat → Int32) (L : Nat → Nat → Int64) (J : Nat → Nat → Int32) (L' : Nat → Nat → Int64) : Prop :=
  s ≤ 24 ∧ I 27 16 = nI s ∧ J 0 52 = nI s ∧ (∀ i, i < s → okW (cw i) ∧ L 34 i = lgN (nC (cw i)) ∧ L' 35 i = lgN (nR (cw i)) ∧ J 36 i = nI (rho i) ∧ rho i < 1400 ∧ nI (rho i) < J 0 36) ∧ (∀ q r, q < s → r < s → cw q = cw r → q = r)
/-- both readers are right so far, at the token now, with nc and nr nodes -/
def pOk (g T : Nat) (K P : Nat → Nat) (W : Nat → List Nat) (U : Nat → Nat) (Q : Nat) (nm : Nat → List Nat) (kd nb : Nat → Nat) (nl nt nu s : Nat) (cw : Nat → List Nat) (rho : Nat → Nat) (now nc nr : Nat) (I : Nat → Nat → Int32) (L : Nat → Nat → Int64) (J : Nat → Nat → Int32) (L' : Nat → Nat → Int64) : Prop :=
  tkS T K P W U I L J L' ∧ kwS L ∧ nmS Q nm kd nb nl nt nu I L J L' ∧ cnS s cw rho I L J L' ∧ now ≤ T ∧ nc ≤ now ∧ nr ≤ now ∧ I 27 0 = 0 ∧ J 0 29 = 0 ∧ I 27 7 = nI now ∧ J 0 28 = nI now ∧ I g 10 = nI nc ∧ J 0 36 = nI nr
/-- what a reader of sums and conditions leaves as it was -/
def eFC (g s nc : Nat) (I I1 : Nat → Nat → Int32) (L L1 : Nat → Nat → Int64) : Prop := (∀ c, c ≠ 27 → c < g ∨ g + 5 < c → I1 c = I c) ∧ (∀ q, q ≠ 10 → I1 g q = I g q) ∧ (∀ c, c < 5 → ∀ i, i < nc → I1 (g + 1 + c) i = I (g + 1 + c) i) ∧ (∀ q, q ≠ 0 → q ≠ 1 → q ≠ 7 → q ≠ 16 → I1 27 q = I 27 q) ∧ (∀ c, c ≠ 34 → L1 c = L c) ∧ (∀ i, i < s → L1 34 i = L 34 i)
def eFR (s nr : Nat) (J J1 : Nat → Nat → Int32) (L' L1 : Nat → Nat → Int64) : Prop := (∀ c, c ≠ 0 → c ≠ 36 → c < 21 ∨ 24 < c → J1 c = J c) ∧ (∀ c, c < 4 → ∀ i, i < nr → J1 (21 + c) i = J (21 + c) i) ∧ (∀ i, i < s → J1 36 i = J 36 i) ∧ (∀ q, q ≠ 28 → q ≠ 29 → q ≠ 30 → q ≠ 36 → q ≠ 52 → J1 0 q = J 0 q) ∧ (∀ c, c ≠ 25 → c ≠ 35 → L1 c = L' c) ∧ (∀ i, i < nr → L1 25 i = L' 25 i) ∧ (∀ i, i < s → L1 35 i = L' 35 i)
theorem eFC.refl {g s nc : Nat} : eFC g s nc I I L L := ⟨fun _ _ _ => rfl, fun _ _ => rfl, fun _ _ _ _ => rfl, fun _ _ _ _ _ => rfl, fun _ _ => rfl, fun _ _ => rfl⟩
theorem eFR.refl {s nr : Nat} : eFR s nr J J L' L' := ⟨fun _ _ _ _ => rfl, fun _ _ _ _ => rfl, fun _ _ => rfl, fun _ _ _ _ _ _ => rfl, fun _ _ _ => rfl, fun _ _ => rfl, fun _ _ => rfl⟩
theorem eFC.trans {g s s2 nc nc2 : Nat} {I1 I2 : Nat → Nat → Int32} {L1 L2 : Nat → Nat → Int64} (h : eFC g s nc I I1 L L1) (h' : eFC g s2 nc2 I1 I2 L1 L2) (hs : s ≤ s2) (hn : nc ≤ nc2) : eFC g s nc I I2 L L2 :=
  ⟨fun c a b => (h'.1 c a b).trans (h.1 c a b), fun q a => (h'.2.1 q a).trans (h.2.1 q a), fun c a i b => (h'.2.2.1 c a i (by omega)).trans (h.2.2.1 c a i b), fun q a b c d => (h'.2.2.2.1 q a b c d).trans (h.2.2.2.1 q a b c d), fun c a => (h'.2.2.2.2.1 c a).trans (h.2.2.2.2.1 c a), fun i a => (h'.2.2.2.2.2 i (by omega)).trans (h.2.2.2.2.2 i a)⟩
theorem eFR.trans {s s2 nr nr2 : Nat} {J1 J2 : Nat → Nat → Int32} {L1 L2 : Nat → Nat → Int64} (h : eFR s nr J J1 L' L1) (h' : eFR s2 nr2 J1 J2 L1 L2) (hs : s ≤ s2) (hn : nr ≤ nr2) : eFR s nr J J2 L' L2 :=
  ⟨fun c a b d => (h'.1 c a b d).trans (h.1 c a b d), fun c a i b => (h'.2.1 c a i (by omega)).trans (h.2.1 c a i b), fun i a => (h'.2.2.1 i (by omega)).trans (h.2.2.1 i a), fun q a b c d e => (h'.2.2.2.1 q a b c d e).trans (h.2.2.2.1 q a b c d e), fun c a b => (h'.2.2.2.2.1 c a b).trans (h.2.2.2.2.1 c a b), fun i a => (h'.2.2.2.2.2.1 i (by omega)).trans (h.2.2.2.2.2.1 i a), fun i a => (h'.2.2.2.2.2.2 i (by omega)).trans (h.2.2.2.2.2.2 i a)⟩
/-- both readers went from now to now', from nc, nr to nc', nr' nodes; no fault in the first -/
def eSt (g T s now nc nr : Nat) (I : Nat → Nat → Int32) (L : Nat → Nat → Int64) (J : Nat → Nat → Int32) (L' : Nat → Nat → Int64) (now' nc' nr' : Nat) (I1 : Nat → Nat → Int32) (L1 : Nat → Nat → Int64) (J1 : Nat → Nat → Int32) (L1' : Nat → Nat → Int64) : Prop :=
  eFC g s nc I I1 L L1 ∧ eFR s nr J J1 L' L1' ∧ now ≤ now' ∧ now' ≤ T ∧ nc ≤ nc' ∧ nr ≤ nr' ∧ nc' + now ≤ nc + now' ∧ nr' + now ≤ nr + now' ∧ I1 27 0 = 0 ∧ I1 27 7 = nI now' ∧ I1 27 16 = nI s ∧ I1 g 10 = nI nc' ∧ J1 0 52 = nI s ∧ J1 0 28 = nI now' ∧ J1 0 36 = nI nr'
/-- both have found the same fault -/
def eF (g T s now nc nr : Nat) (I : Nat → Nat → Int32) (L : Nat → Nat → Int64) (J : Nat → Nat → Int32) (L' : Nat → Nat → Int64) (now1 nc1 now2 nr2 : Nat) (I1 : Nat → Nat → Int32) (L1 : Nat → Nat → Int64) (J1 : Nat → Nat → Int32) (L1' : Nat → Nat → Int64) : Prop :=
  eFC g s nc I I1 L L1 ∧ eFR s nr J J1 L' L1' ∧ (∃ f p : Nat, 1 ≤ f ∧ f ≤ 6 ∧ I1 27 0 = nI f ∧ I1 27 1 = nI p ∧ J1 0 29 = nI f ∧ J1 0 30 = nI p) ∧ now1 ≤ T ∧ I1 27 7 = nI now1 ∧ nc ≤ nc1 ∧ nc1 ≤ 1201 ∧ I1 g 10 = nI nc1 ∧ now ≤ now2 ∧ now2 ≤ T ∧ J1 0 28 = nI now2 ∧ nr ≤ nr2 ∧ nr2 + now ≤ nr + now2 ∧ J1 0 36 = nI nr2
variable {g T : Nat} {K P : Nat → Nat} {W : Nat → List Nat} {U : Nat → Nat} {Q : Nat} {nm : Nat → List Nat} {kd nb : Nat → Nat} {nl nt nu s : Nat} {cw : Nat → List Nat} {rho : Nat → Nat} {now nc nr : Nat}
/-- the outcome of a reader of sums or conditions -/
def eQ (g T : Nat) (K P : Nat → Nat) (nl nt lam s : Nat) (rho : Nat → Nat) (h : Nat) (b : Bool) (now nc nr : Nat) (I : Nat → Nat → Int32) (L : Nat → Nat → Int64) (J : Nat → Nat → Int32) (L' : Nat → Nat → Int64) (px : Nat → Nat → Option Nat) (v : Option Value) (S : jS) (w : Option Value) (S' : jS) : Prop :=
  ∃ I1 L1 J1 L1' x y, v = some (.int x) ∧ w = some (.int y) ∧ S = (shC, I1, L1, px) ∧ S' = (shR, J1, L1', pR) ∧ ((∃ now' nc' nr' n k, now < now' ∧ eSt g T s now nc nr I L J L' now' nc' nr' I1 L1 J1 L1' ∧ x = nI n ∧ y = nI k ∧ ((J1 0 29 = 0 ∧ pst g I1 J1 L1' nl nt lam h b (lam + (now' - now)) s rho nc nc' nr nr' n k) ∨ (K now' = 40 ∧ J1 0 29 = 2 ∧ J1 0 30 = nI (P now')))) ∨ ∃ now1 nc1 now2 nr2, eF g T s now nc nr I L J L' now1 nc1 now2 nr2 I1 L1 J1 L1')
theorem eF.f {now1 nc1 now2 nr2 : Nat} {I1 J1 : Nat → Nat → Int32} {L1 L1' : Nat → Nat → Int64} (h : eF g T s now nc nr I L J L' now1 nc1 now2 nr2 I1 L1 J1 L1') : I1 27 0 ≠ 0 ∧ J1 0 29 ≠ 0 := by
  obtain ⟨f, p, f1, f2, f3, f4, f5, f6⟩ := h.2.2.1
  have : nI f ≠ 0 := fun z => by have := (nI_eq (b := 0) (by omega) (by decide)).mp z; omega
  exact ⟨by rw [f3]; exact this, by rw [f5]; exact this⟩
theorem eSt.trans {now' nc' nr' now2 nc2 nr2 : Nat} {I1 J1 I2 J2 : Nat → Nat → Int32} {L1 L1' L2 L2' : Nat → Nat → Int64} (h : eSt g T s now nc nr I L J L' now' nc' nr' I1 L1 J1 L1') (h' : eSt g T s now' nc' nr' I1 L1 J1 L1' now2 nc2 nr2 I2 L2 J2 L2') : eSt g T s now nc nr I L J L' now2 nc2 nr2 I2 L2 J2 L2' := by
  obtain ⟨a1, a2, a3, a4, a5, a6, a7, a8, a9⟩ := h
  obtain ⟨b1, b2, b3, b4, b5, b6, b7, b8, b9⟩ := h'
  exact ⟨a1.trans b1 (Nat.le_refl _) a5, a2.trans b2 (Nat.le_refl _) a6, by omega, b4, by omega, by omega, by omega, by omega, b9⟩
theorem eF.pre {now' nc' nr' now1 nc1 now2 nr2 : Nat} {I1 J1 I2 J2 : Nat → Nat → Int32} {L1 L1' L2 L2' : Nat → Nat → Int64} (h : eSt g T s now nc nr I L J L' now' nc' nr' I1 L1 J1 L1') (h' : eF g T s now' nc' nr' I1 L1 J1 L1' now1 nc1 now2 nr2 I2 L2 J2 L2') : eF g T s now nc nr I L J L' now1 nc1 now2 nr2 I2 L2 J2 L2' := by
  obtain ⟨a1, a2, a3, a4, a5, a6, a7, a8, a9⟩ := h
  obtain ⟨b1, b2, b3, b4, b5, b6, b7, b8, b9, b10, b11, b12, b13, b14⟩ := h'
  exact ⟨a1.trans b1 (Nat.le_refl _) a5, a2.trans b2 (Nat.le_refl _) a6, b3, b4, b5, by omega, b7, b8, by omega, b10, b11, by omega, by omega, b14⟩
theorem pOk.st (h : pOk g T K P W U Q nm kd nb nl nt nu s cw rho now nc nr I L J L') : eSt g T s now nc nr I L J L' now nc nr I L J L' := by
  obtain ⟨a1, a2, a3, a4, a5, a6, a7, a8, a9, a10, a11, a12, a13⟩ := h
  exact ⟨eFC.refl, eFR.refl, Nat.le_refl _, a5, Nat.le_refl _, Nat.le_refl _, Nat.le_refl _, Nat.le_refl _, a8, a10, a4.2.1, a12, a4.2.2.1, a11, a13⟩
theorem tkS.frame {I1 J1 : Nat → Nat → Int32} {L1 L1' : Nat → Nat → Int64} (h : tkS T K P W U I L J L') (h6 : I1 27 6 = I 27 6) (h28 : I1 28 = I 28) (h29 : I1 29 = I 29) (h30 : L1 30 = L 30) (j18 : J1 18 = J 18) (j19 : J1 19 = J 19) (j20 : L1' 20 = L' 20) : tkS T K P W U I1 L1 J1 L1' := by
  unfold tkS at h ⊢
  rw [h6, h28, h29, h30, j18, j19, j20]
  exact h
theorem nmS.frame {I1 J1 : Nat → Nat → Int32} {L1 L1' : Nat → Nat → Int64} (h : nmS Q nm kd nb nl nt nu I L J L') (h14 : I1 27 14 = I 27 14) (h31 : L1 31 = L 31) (h32 : I1 32 = I 32) (h33 : I1 33 = I 33) (j39 : J1 0 39 = J 0 39) (j46 : J1 0 46 = J 0 46) (j49 : J1 0 49 = J 0 49) (j26 : L1' 26 = L' 26) (j28 : L1' 28 = L' 28) (j33 : L1' 33 = L' 33) : nmS Q nm kd nb nl nt nu I1 L1 J1 L1' := by
  unfold nmS at h ⊢
  rw [h14, h31, h32, h33, j39, j46, j49, j26, j28, j33]
  exact h
theorem cnS.frame {I1 J1 : Nat → Nat → Int32} {L1 L1' : Nat → Nat → Int64} (h : cnS s cw rho I L J L') (h16 : I1 27 16 = nI s) (j52 : J1 0 52 = nI s) (h34 : ∀ i, i < s → L1 34 i = L 34 i) (j35 : ∀ i, i < s → L1' 35 i = L' 35 i) (j36 : ∀ i, i < s → J1 36 i = J 36 i) (j0 : ∀ x : Int32, x < J 0 36 → x < J1 0 36) : cnS s cw rho I1 L1 J1 L1' :=
  ⟨h.1, h16, j52, fun i hi => by
    obtain ⟨z1, z2, z3, z4, z5, z6⟩ := h.2.2.2.1 i hi
    rw [h34 i hi, j35 i hi, j36 i hi]; exact ⟨z1, z2, z3, z4, z5, j0 _ z6⟩, h.2.2.2.2⟩
theorem eSt.ok {now' nc' nr' : Nat} {I1 J1 : Nat → Nat → Int32} {L1 L1' : Nat → Nat → Int64} (hg : g = 38 ∨ g = 49) (h : pOk g T K P W U Q nm kd nb nl nt nu s cw rho now nc nr I L J L') (h' : eSt g T s now nc nr I L J L' now' nc' nr' I1 L1 J1 L1') (h29 : J1 0 29 = 0) : pOk g T K P W U Q nm kd nb nl nt nu s cw rho now' nc' nr' I1 L1 J1 L1' := by
  obtain ⟨a1, a2, a3, a4, a5, a6, a7, a8, a9, a10, a11, a12, a13⟩ := h
  obtain ⟨b1, b2, b3, b4, b5, b6, b7, b8, b9, b10, b11, b12, b13, b14, b15⟩ := h'
  have eI : ∀ c, c ≠ 27 → c < 38 → I1 c = I c := fun c h1 h2 => b1.1 c h1 (Or.inl (by omega))
  refine ⟨a1.frame (b1.2.2.2.1 6 (by decide) (by decide) (by decide) (by decide)) (eI 28 (by decide) (by decide)) (eI 29 (by decide) (by decide)) (b1.2.2.2.2.1 30 (by decide)) (b2.1 18 (by decide) (by decide) (by decide)) (b2.1 19 (by decide) (by decide) (by decide)) (b2.2.2.2.2.1 20 (by decide) (by decide)), ?_, ?_, a4.frame b11 b13 b1.2.2.2.2.2 b2.2.2.2.2.2.2 b2.2.2.1 (fun x hx => by rw [a13] at hx; rw [b15]; exact Int32.lt_of_lt_of_le hx (nI_le b6 (by have := a1.1; omega))), b4, by omega, by omega, b9, h29, b10, b14, b12, b15⟩
  · unfold kwS at a2 ⊢
    rw [b1.2.2.2.2.1 35 (by decide), b1.2.2.2.2.1 36 (by decide), b1.2.2.2.2.1 37 (by decide)]
    exact a2
  · exact a3.frame (b1.2.2.2.1 14 (by decide) (by decide) (by decide) (by decide)) (b1.2.2.2.2.1 31 (by decide)) (eI 32 (by decide) (by decide)) (eI 33 (by decide) (by decide)) (b2.2.2.2.1 39 (by decide) (by decide) (by decide) (by decide) (by decide)) (b2.2.2.2.1 46 (by decide) (by decide) (by decide) (by decide) (by decide)) (b2.2.2.2.1 49 (by decide) (by decide) (by decide) (by decide) (by decide)) (b2.2.2.2.2.1 26 (by decide) (by decide)) (b2.2.2.2.2.1 28 (by decide) (by decide)) (b2.2.2.2.2.1 33 (by decide) (by decide))
/-- a token is stepped over in both -/
theorem eSt.adv {now' nc' nr' : Nat} {I1 J1 : Nat → Nat → Int32} {L1 L1' : Nat → Nat → Int64} (hg : g = 38 ∨ g = 49) (h : eSt g T s now nc nr I L J L' now' nc' nr' I1 L1 J1 L1') (ht : now' < T) : eSt g T s now nc nr I L J L' (now' + 1) nc' nr' (j_up I1 27 7 (nI (now' + 1))) L1 (j_up J1 0 28 (nI (now' + 1))) L1' := by
  obtain ⟨b1, b2, b3, b4, b5, b6, b7, b8, b9, b10, b11, b12, b13, b14, b15⟩ := h
  refine ⟨⟨fun c h1 h2 => ?_, fun q h1 => ?_, fun c h1 i h2 => ?_, fun q h1 h2 h3 h4 => ?_, b1.2.2.2.2.1, b1.2.2.2.2.2⟩, ⟨fun c h1 h2 h3 => ?_, fun c h1 i h2 => ?_, fun i h1 => ?_, fun q h1 h2 h3 h4 h5 => ?_, b2.2.2.2.2.1, b2.2.2.2.2.2.1, b2.2.2.2.2.2.2⟩, by omega, by omega, b5, b6, by omega, by omega, ?_, ?_, ?_, ?_, ?_, ?_, ?_⟩
  · rw [j_up_cell _ h1]; exact b1.1 c h1 h2
  · rw [j_up_cell _ (by omega)]; exact b1.2.1 q h1
  · rw [j_up_cell _ (by omega)]; exact b1.2.2.1 c h1 i h2
  · rw [j_up_own, if_neg h3]; exact b1.2.2.2.1 q h1 h2 h3 h4
  · rw [j_up_cell _ h1]; exact b2.1 c h1 h2 h3
  · rw [j_up_cell _ (by omega)]; exact b2.2.1 c h1 i h2
  · rw [j_up_cell _ (by decide)]; exact b2.2.2.1 i h1
  · rw [j_up_own, if_neg h1]; exact b2.2.2.2.1 q h1 h2 h3 h4 h5
  · rw [j_up_own, if_neg (by decide)]; exact b9
  · rw [j_up_own, if_pos rfl]
  · rw [j_up_own, if_neg (by decide)]; exact b11
  · rw [j_up_cell _ (by omega)]; exact b12
  · rw [j_up_own, if_neg (by decide)]; exact b13
  · rw [j_up_own, if_pos rfl]
  · rw [j_up_own, if_neg (by decide)]; exact b15
theorem adR_at (nr : Nat) (a x y z : Int32) : (∀ i, i ≠ nr → ∀ c, c < 4 → adR J nr a x y z (21 + c) i = J (21 + c) i) ∧ adR J nr a x y z 21 nr = a ∧ adR J nr a x y z 22 nr = x ∧ adR J nr a x y z 23 nr = y ∧ adR J nr a x y z 24 nr = z ∧ (∀ c, c ≠ 0 → c < 21 ∨ 24 < c → adR J nr a x y z c = J c) ∧ (∀ q, q ≠ 36 → adR J nr a x y z 0 q = J 0 q) ∧ adR J nr a x y z 0 36 = nI (nr + 1) := by
  unfold adR
  refine ⟨fun i hi c hc => ?_, ?_, ?_, ?_, ?_, fun c h1 h2 => ?_, fun q h1 => ?_, ?_⟩
  · have e : ∀ (F : Nat → Nat → Int32) (k : Nat) v, j_up F k nr v (21 + c) i = F (21 + c) i := fun F k v => by
      rw [j_up_app]
      by_cases q : 21 + c = k
      · rw [if_pos q, if_neg hi, q]
      · rw [if_neg q]
    rw [j_up_cell _ (by omega), e, e, e, e]
  · rw [j_up_cell _ (by decide), j_up_cell _ (by decide), j_up_cell _ (by decide), j_up_cell _ (by decide), j_up_own, if_pos rfl]
  · rw [j_up_cell _ (by decide), j_up_cell _ (by decide), j_up_cell _ (by decide), j_up_own, if_pos rfl]
  · rw [j_up_cell _ (by decide), j_up_cell _ (by decide), j_up_own, if_pos rfl]
  · rw [j_up_cell _ (by decide), j_up_own, if_pos rfl]
  · rw [j_up_cell _ h1, j_up_cell _ (by omega), j_up_cell _ (by omega), j_up_cell _ (by omega), j_up_cell _ (by omega)]
  · rw [j_up_own, if_neg h1, j_up_cell _ (by decide), j_up_cell _ (by decide), j_up_cell _ (by decide), j_up_cell _ (by decide)]
  · rw [j_up_own, if_pos rfl]
theorem adC_at (g nc : Nat) (a b x y z : Int32) : (∀ i, i ≠ nc → ∀ c, c < 5 → adC g I nc a b x y z (g + 1 + c) i = I (g + 1 + c) i) ∧ adC g I nc a b x y z (g + 1) nc = a ∧ adC g I nc a b x y z (g + 5) nc = b ∧ adC g I nc a b x y z (g + 2) nc = x ∧ adC g I nc a b x y z (g + 3) nc = y ∧ adC g I nc a b x y z (g + 4) nc = z ∧ (∀ c, c < g ∨ g + 5 < c → adC g I nc a b x y z c = I c) ∧ (∀ q, q ≠ 10 → adC g I nc a b x y z g q = I g q) ∧ adC g I nc a b x y z g 10 = nI (nc + 1) := by
  unfold adC
  refine ⟨fun i hi c hc => ?_, ?_, ?_, ?_, ?_, ?_, fun c h1 => ?_, fun q h1 => ?_, ?_⟩
  · have e : ∀ (F : Nat → Nat → Int32) (k : Nat) v, j_up F k nc v (g + 1 + c) i = F (g + 1 + c) i := fun F k v => by
      rw [j_up_app]
      by_cases q : g + 1 + c = k
      · rw [if_pos q, if_neg hi, q]
      · rw [if_neg q]
    rw [j_up_cell _ (by omega), e, e, e, e, e]
  · rw [j_up_cell _ (by omega), j_up_cell _ (by omega), j_up_cell _ (by omega), j_up_cell _ (by omega), j_up_cell _ (by omega), j_up_own, if_pos rfl]
  · rw [j_up_cell _ (by omega), j_up_cell _ (by omega), j_up_cell _ (by omega), j_up_cell _ (by omega), j_up_own, if_pos rfl]
  · rw [j_up_cell _ (by omega), j_up_cell _ (by omega), j_up_cell _ (by omega), j_up_own, if_pos rfl]
  · rw [j_up_cell _ (by omega), j_up_cell _ (by omega), j_up_own, if_pos rfl]
  · rw [j_up_cell _ (by omega), j_up_own, if_pos rfl]
  · rw [j_up_cell _ (by omega), j_up_cell _ (by omega), j_up_cell _ (by omega), j_up_cell _ (by omega), j_up_cell _ (by omega), j_up_cell _ (by omega)]
  · rw [j_up_own, if_neg h1, j_up_cell _ (by omega), j_up_cell _ (by omega), j_up_cell _ (by omega), j_up_cell _ (by omega), j_up_cell _ (by omega)]
  · rw [j_up_own, if_pos rfl]
/-- a node is added in both -/
theorem eSt.add {now' nc' nr' : Nat} {I1 J1 : Nat → Nat → Int32} {L1 L1' : Nat → Nat → Int64} (hg : g = 38 ∨ g = 49) (h : eSt g T s now nc nr I L J L' now' nc' nr' I1 L1 J1 L1') (h1 : nc' + 1 + now ≤ nc + now') (h2 : nr' + 1 + now ≤ nr + now') (a b x y z a' x' y' z' : Int32) (v : Int64) : eSt g T s now nc nr I L J L' now' (nc' + 1) (nr' + 1) (adC g I1 nc' a b x y z) L1 (adR J1 nr' a' x' y' z') (j_up L1' 25 nr' v) := by
  obtain ⟨b1, b2, b3, b4, b5, b6, b7, b8, b9, b10, b11, b12, b13, b14, b15⟩ := h
  obtain ⟨c1, _, _, _, _, _, c2, c3, c4⟩ := adC_at (I := I1) g nc' a b x y z
  obtain ⟨e1, _, _, _, _, e2, e3, e4⟩ := adR_at (J := J1) nr' a' x' y' z'
  have r27 : adC g I1 nc' a b x y z 27 = I1 27 := c2 27 (by omega)
  refine ⟨⟨fun c q1 q2 => (c2 c q2).trans (b1.1 c q1 q2), fun q q1 => (c3 q q1).trans (b1.2.1 q q1), fun c q1 i q2 => (c1 i (by omega) c q1).trans (b1.2.2.1 c q1 i q2), fun q q1 q2 q3 q4 => by rw [r27]; exact b1.2.2.2.1 q q1 q2 q3 q4, b1.2.2.2.2.1, b1.2.2.2.2.2⟩, ⟨fun c q1 q2 q3 => (e2 c q1 q3).trans (b2.1 c q1 q2 q3), fun c q1 i q2 => (e1 i (by omega) c q1).trans (b2.2.1 c q1 i q2), fun i q1 => by rw [e2 36 (by decide) (by decide)]; exact b2.2.2.1 i q1, fun q q1 q2 q3 q4 q5 => (e3 q q4).trans (b2.2.2.2.1 q q1 q2 q3 q4 q5), fun c q1 q2 => by rw [j_up_cell _ q1]; exact b2.2.2.2.2.1 c q1 q2, fun i q1 => by rw [j_up_own, if_neg (by omega)]; exact b2.2.2.2.2.2.1 i q1, fun i q1 => by rw [j_up_cell _ (by decide)]; exact b2.2.2.2.2.2.2 i q1⟩, b3, b4, by omega, by omega, by omega, by omega, by rw [r27]; exact b9, by rw [r27]; exact b10, by rw [r27]; exact b11, c4, by rw [e3 52 (by decide)]; exact b13, by rw [e3 28 (by decide)]; exact b14, e4⟩
/-- behind a fault: the first program's nodes change, the second's get one more -/
theorem eF.chg {now1 nc1 now2 nr2 : Nat} {I1 J1 I2 : Nat → Nat → Int32} {L1 L1' : Nat → Nat → Int64} (hg : g = 38 ∨ g = 49) (h : eF g T s now nc nr I L J L' now1 nc1 now2 nr2 I1 L1 J1 L1') (hc : cfr g nc I1 I2) (hu : I1 g 10 = nI nc1) : ∃ nc2, eF g T s now nc nr I L J L' now1 nc2 now2 nr2 I2 L1 J1 L1' := by
  obtain ⟨b1, b2, b3, b4, b5, b6, b7, b8, b9⟩ := h
  obtain ⟨c1, c2, c3, nc2, c4, c5, c6⟩ := hc
  have r27 : I2 27 = I1 27 := c1 27 (by omega)
  exact ⟨nc2, ⟨fun c q1 q2 => (c1 c q2).trans (b1.1 c q1 q2), fun q q1 => (c3 q q1).trans (b1.2.1 q q1), fun c q1 i q2 => (c2 c q1 i q2).trans (b1.2.2.1 c q1 i q2), fun q q1 q2 q3 q4 => by rw [r27]; exact b1.2.2.2.1 q q1 q2 q3 q4, b1.2.2.2.2.1, b1.2.2.2.2.2⟩, b2, by rw [r27]; exact b3, b4, by rw [r27]; exact b5, c4, c5, c6, b9⟩
theorem eF.addR {now1 nc1 now2 nr2 : Nat} {I1 J1 : Nat → Nat → Int32} {L1 L1' : Nat → Nat → Int64} (h : eF g T s now nc nr I L J L' now1 nc1 now2 nr2 I1 L1 J1 L1') (h2 : nr2 + 1 + now ≤ nr + now2) (a' x' y' z' : Int32) (v : Int64) : eF g T s now nc nr I L J L' now1 nc1 now2 (nr2 + 1) I1 L1 (adR J1 nr2 a' x' y' z') (j_up L1' 25 nr2 v) := by
  obtain ⟨b1, b2, b3, b4, b5, b6, b7, b8, b9, b10, b11, b12, b13, b14⟩ := h
  obtain ⟨e1, _, _, _, _, e2, e3, e4⟩ := adR_at (J := J1) nr2 a' x' y' z'
  exact ⟨b1, ⟨fun c q1 q2 q3 => (e2 c q1 q3).trans (b2.1 c q1 q2 q3), fun c q1 i q2 => (e1 i (by omega) c q1).trans (b2.2.1 c q1 i q2), fun i q1 => by rw [e2 36 (by decide) (by decide)]; exact b2.2.2.1 i q1, fun q q1 q2 q3 q4 q5 => (e3 q q4).trans (b2.2.2.2.1 q q1 q2 q3 q4 q5), fun c q1 q2 => by rw [j_up_cell _ q1]; exact b2.2.2.2.2.1 c q1 q2, fun i q1 => by rw [j_up_own, if_neg (by omega)]; exact b2.2.2.2.2.2.1 i q1, fun i q1 => by rw [j_up_cell _ (by decide)]; exact b2.2.2.2.2.2.2 i q1⟩, by rw [e3 29 (by decide), e3 30 (by decide)]; exact b3, b4, b5, b6, b7, b8, b9, b10, by rw [e3 28 (by decide)]; exact b11, by omega, by omega, e4⟩
end PARE
