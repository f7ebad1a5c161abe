/-! RULES: statements; what is kept of them -/
section PARS
variable {T : Nat} {K P : Nat → Nat} {W : Nat → List Nat} {U : Nat → Nat} {Q : Nat} {nm : Nat → List Nat} {kd nb : Nat → Nat} {nl nt nu s : Nat} {cw : Nat → List Nat} {rho : Nat → Nat} {lam : Nat} {pa pb pw : Option Nat}
def cw0 : Nat → List Nat := fun _ => []
def rho0 : Nat → Nat := fun _ => 0
/-- what reading statements leaves as it was -/
def sFr (g : Nat) (I I1 : Nat → Nat → Int32) (L L1 : Nat → Nat → Int64) (J J1 : Nat → Nat → Int32) (L' L1' : Nat → Nat → Int64) : Prop :=
  (∀ c, c < 27 ∨ 37 < c → c < g ∨ g + 10 < c → I1 c = I c) ∧ I1 28 = I 28 ∧ I1 29 = I 29 ∧ (∀ q, q ≠ 0 → q ≠ 1 → q ≠ 7 → q ≠ 14 → q ≠ 16 → I1 27 q = I 27 q) ∧ (∀ q, q < 10 ∨ 13 < q → I1 g q = I g q) ∧ (∀ c, c ≠ 31 → c ≠ 34 → L1 c = L c) ∧ (∀ c, c ≠ 0 → c < 21 ∨ 36 < c → J1 c = J c) ∧ (∀ q, q < 28 ∨ 52 < q → J1 0 q = J 0 q) ∧ (∀ c, c < 25 ∨ 35 < c → L1' c = L' c)
theorem sFr.refl {g : Nat} {I J : Nat → Nat → Int32} {L L' : Nat → Nat → Int64} : sFr g I I L L J J L' L' := ⟨fun _ _ _ => rfl, rfl, rfl, fun _ _ _ _ _ _ => rfl, fun _ _ => rfl, fun _ _ _ => rfl, fun _ _ _ => rfl, fun _ _ => rfl, fun _ _ => rfl⟩
theorem sFr.trans {g : Nat} {I J I1 J1 I2 J2 : Nat → Nat → Int32} {L L' L1 L1' L2 L2' : Nat → Nat → Int64} (a : sFr g I I1 L L1 J J1 L' L1') (b : sFr g I1 I2 L1 L2 J1 J2 L1' L2') : sFr g I I2 L L2 J J2 L' L2' :=
  ⟨fun c h1 h2 => (b.1 c h1 h2).trans (a.1 c h1 h2), b.2.1.trans a.2.1, b.2.2.1.trans a.2.2.1, fun q h1 h2 h3 h4 h5 => (b.2.2.2.1 q h1 h2 h3 h4 h5).trans (a.2.2.2.1 q h1 h2 h3 h4 h5), fun q h => (b.2.2.2.2.1 q h).trans (a.2.2.2.2.1 q h), fun c h1 h2 => (b.2.2.2.2.2.1 c h1 h2).trans (a.2.2.2.2.2.1 c h1 h2), fun c h1 h2 => (b.2.2.2.2.2.2.1 c h1 h2).trans (a.2.2.2.2.2.2.1 c h1 h2), fun q h => (b.2.2.2.2.2.2.2.1 q h).trans (a.2.2.2.2.2.2.2.1 q h), fun c h => (b.2.2.2.2.2.2.2.2 c h).trans (a.2.2.2.2.2.2.2.2 c h)⟩
theorem sFr.of {g s nc nr : Nat} (hg : g = 38 ∨ g = 49) {I J I1 J1 : Nat → Nat → Int32} {L L' L1 L1' : Nat → Nat → Int64} (a : eFC g s nc I I1 L L1) (b : eFR s nr J J1 L' L1') : sFr g I I1 L L1 J J1 L' L1' :=
  ⟨fun c h1 h2 => a.1 c (by omega) (by omega), a.1 28 (by decide) (by omega), a.1 29 (by decide) (by omega), fun q h1 h2 h3 h4 h5 => a.2.2.2.1 q h1 h2 h3 h5, fun q h => a.2.1 q (by omega), fun c h1 h2 => a.2.2.2.2.1 c h2, fun c h1 h2 => b.1 c h1 (by omega) (by omega), fun q h => b.2.2.2.1 q (by omega) (by omega) (by omega) (by omega) (by omega), fun c h => b.2.2.2.2.1 c (by omega) (by omega)⟩
/-- both have found the same fault -/
def sB (I J : Nat → Nat → Int32) : Prop := ∃ f p : Nat, 1 ≤ f ∧ f ≤ 6 ∧ I 27 0 = nI f ∧ I 27 1 = nI p ∧ J 0 29 = nI f ∧ J 0 30 = nI p
theorem sB.f {I J : Nat → Nat → Int32} (h : sB I J) : I 27 0 ≠ 0 ∧ J 0 29 ≠ 0 := by
  obtain ⟨f, p, f1, f2, f3, f4, f5, f6⟩ := h
  have : nI f ≠ 0 := fun z => by have := (nI_eq (b := 0) (by omega) (by decide)).mp z; omega
  exact ⟨by rw [f3]; exact this, by rw [f5]; exact this⟩
/-- a number with its sign, in both -/
def ptE (x : Int32) (y : Int64) : Prop := ∃ z : Int, -1000000000 < z ∧ z < 1000000000 ∧ x.toInt = z ∧ y.toInt = z
/-- what is kept: lets, rules, tables -/
def prL (g nl nt : Nat) (wl : Nat → Nat) (nc nr : Nat) (I J : Nat → Nat → Int32) (L' : Nat → Nat → Int64) : Prop := ∀ i, i < nl → ∃ n k mt, mt ≤ nt ∧ I (g + 6) i = nI n ∧ J 27 i = nI k ∧ pst g I J L' i mt (wl i) 75 true (wl (i + 1)) 0 rho0 0 nc 0 nr n k
def prU (g nl nt nu : Nat) (wl : Nat → Nat) (nc nr : Nat) (I J : Nat → Nat → Int32) (L' : Nat → Nat → Int64) : Prop := ∀ i, i < nu → ∃ n k m mt w, m ≤ nl ∧ mt ≤ nt ∧ w ≤ 1200 ∧ I (g + 7) i = nI n ∧ J 34 i = nI k ∧ pst g I J L' m mt (wl m) 75 false w 0 rho0 0 nc 0 nr n k
def prT (g nt np : Nat) (I J : Nat → Nat → Int32) (L' : Nat → Nat → Int64) : Prop := ∀ t, t < nt → ∃ a m, 1 ≤ m ∧ m ≤ 12 ∧ a + m ≤ np ∧ J 29 t = nI a ∧ J 30 t = nI (a + m) ∧ I (g + 10) t = nI m ∧ (∀ j, j < m → ptE (I (g + 8) (12 * t + j)) (L' 31 (a + j)) ∧ ptE (I (g + 9) (12 * t + j)) (L' 32 (a + j))) ∧ ∀ j, j + 1 < m → (L' 31 (a + j)).toInt < (L' 31 (a + j + 1)).toInt
/-- both readers stand ahead of a statement -/
def pS (g T : Nat) (K P : Nat → Nat) (W : Nat → List Nat) (U : Nat → Nat) (Q : Nat) (nm : Nat → List Nat) (kd nb : Nat → Nat) (nl nt nu : Nat) (wl : Nat → Nat) (np now nc nr : Nat) (I : Nat → Nat → Int32) (L : Nat → Nat → Int64) (J : Nat → Nat → Int32) (L' : Nat → Nat → Int64) : Prop :=
  pOk g T K P W U Q nm kd nb nl nt nu 0 cw0 rho0 now nc nr I L J L' ∧ I g 11 = nI nl ∧ I g 12 = nI nt ∧ I g 13 = nI nu ∧ Q = nl + nt + nu ∧ J 0 45 = nI np ∧ np ≤ 12 * nt ∧ prL g nl nt wl nc nr I J L' ∧ prU g nl nt nu wl nc nr I J L' ∧ prT g nt np I J L' ∧ (∀ i j, i ≤ j → wl i ≤ wl j) ∧ wl nl ≤ now
/-- the outcome of a statement -/
def sQ (g T : Nat) (K P : Nat → Nat) (W : Nat → List Nat) (U : Nat → Nat) (now : Nat) (I : Nat → Nat → Int32) (L : Nat → Nat → Int64) (J : Nat → Nat → Int32) (L' : Nat → Nat → Int64) (px : Nat → Nat → Option Nat) (v : Option Value) (S : jS) (w : Option Value) (S' : jS) : Prop :=
  ∃ I1 L1 J1 L1', v = none ∧ w = none ∧ S = (shC, I1, L1, px) ∧ S' = (shR, J1, L1', pR) ∧ sFr g I I1 L L1 J J1 L' L1' ∧ ((∃ Q nm kd nb nl nt nu wl np now' nc' nr', now < now' ∧ pS g T K P W U Q nm kd nb nl nt nu wl np now' nc' nr' I1 L1 J1 L1') ∨ sB I1 J1)
theorem eF.b {g : Nat} {now nc nr now1 nc1 now2 nr2 : Nat} {I J I1 J1 : Nat → Nat → Int32} {L L' L1 L1' : Nat → Nat → Int64} (h : eF g T s now nc nr I L J L' now1 nc1 now2 nr2 I1 L1 J1 L1') : sB I1 J1 := h.2.2.1
theorem sQ.bad {g now : Nat} {I J I1 J1 : Nat → Nat → Int32} {L L' L1 L1' : Nat → Nat → Int64} {px : Nat → Nat → Option Nat} (h : sFr g I I1 L L1 J J1 L' L1') (hb : sB I1 J1) : sQ g T K P W U now I L J L' px none (shC, I1, L1, px) none (shR, J1, L1', pR) := ⟨I1, L1, J1, L1', rfl, rfl, rfl, rfl, h, Or.inr hb⟩
theorem sQ.ok {g now : Nat} {I J I1 J1 : Nat → Nat → Int32} {L L' L1 L1' : Nat → Nat → Int64} {px : Nat → Nat → Option Nat} (h : sFr g I I1 L L1 J J1 L' L1') {wl : Nat → Nat} {np now' nc' nr' : Nat} (hn : now < now') (hb : pS g T K P W U Q nm kd nb nl nt nu wl np now' nc' nr' I1 L1 J1 L1') : sQ g T K P W U now I L J L' px none (shC, I1, L1, px) none (shR, J1, L1', pR) := ⟨I1, L1, J1, L1', rfl, rfl, rfl, rfl, h, Or.inl ⟨Q, nm, kd, nb, nl, nt, nu, wl, np, now', nc', nr', hn, hb⟩⟩
/-- one name more -/
theorem nmS.tell {I J I1 J1 : Nat → Nat → Int32} {L L' L1 L1' : Nat → Nat → Int64} (h : nmS Q nm kd nb nl nt nu I L J L') (hQ : Q < 72) {w : List Nat} (hw : okW w) (hnew : ∀ q, q < Q → nm q ≠ w) {k b nl2 nt2 nu2 : Nat} (b1 : nl ≤ nl2 ∧ nl2 ≤ 40) (b2 : nt ≤ nt2 ∧ nt2 ≤ 8) (b3 : nu ≤ nu2 ∧ nu2 ≤ 24) (h14 : I1 27 14 = nI (Q + 1)) (j39 : J1 0 39 = nI nl2) (j46 : J1 0 46 = nI nt2) (j49 : J1 0 49 = nI nu2) (i31 : ∀ q, q < Q → L1 31 q = L 31 q) (n31 : L1 31 Q = lgN (nC w)) (i32 : ∀ q, q < Q → I1 32 q = I 32 q) (n32 : I1 32 Q = nI k) (i33 : ∀ q, q < Q → I1 33 q = I 33 q) (n33 : I1 33 Q = nI b) (l26 : ∀ i, i < nl → L1' 26 i = L' 26 i) (l28 : ∀ i, i < nt → L1' 28 i = L' 28 i) (l33 : ∀ i, i < nu → L1' 33 i = L' 33 i) (hk : (k = 2 ∧ b = nl ∧ nl2 = nl + 1 ∧ nt2 = nt ∧ nu2 = nu ∧ L1' 26 nl = lgN (nR w)) ∨ (k = 3 ∧ b = nt ∧ nl2 = nl ∧ nt2 = nt + 1 ∧ nu2 = nu ∧ L1' 28 nt = lgN (nR w)) ∨ (k = 14 ∧ b = nu ∧ nl2 = nl ∧ nt2 = nt ∧ nu2 = nu + 1 ∧ L1' 33 nu = lgN (nR w))) : nmS (Q + 1) (upW nm Q w) (upN kd Q k) (upN nb Q b) nl2 nt2 nu2 I1 L1 J1 L1' := by
  obtain ⟨c1, c2, c3, c4, c5, c6, c7, c8, c9, c10, c11, c12, c13⟩ := h
  have old : ∀ (f : Nat → Nat) (v q : Nat), q < Q → upN f Q v q = f q := fun f v q hq => upN_n f (by omega)
  have oldW : ∀ q, q < Q → upW nm Q w q = nm q := fun q hq => if_neg (by omega)
  have ownW : upW nm Q w Q = w := if_pos rfl
  refine ⟨by omega, h14, b1.2, b2.2, b3.2, j39, j46, j49, fun q hq => ?_, fun i hi => ?_, fun i hi => ?_, fun i hi => ?_, fun q r hq hr e => ?_⟩
  · rcases Nat.lt_or_eq_of_le (show q ≤ Q by omega) with z | z
    · obtain ⟨e1, e2, e3, e4, e5⟩ := c9 q z
      rw [old kd k q z, old nb b q z, oldW q z]
      refine ⟨e1, (i31 q z).trans e2, (i32 q z).trans e3, (i33 q z).trans e4, ?_⟩
      rcases e5 with ⟨f1, f2, f3⟩ | ⟨f1, f2, f3⟩ | ⟨f1, f2, f3⟩
      · exact Or.inl ⟨f1, by omega, (l26 _ f2).trans f3⟩
      · exact Or.inr (Or.inl ⟨f1, by omega, (l28 _ f2).trans f3⟩)
      · exact Or.inr (Or.inr ⟨f1, by omega, (l33 _ f2).trans f3⟩)
    · subst z
      rw [upN_o, upN_o, ownW]
      refine ⟨hw, n31, n32, n33, ?_⟩
      rcases hk with ⟨f1, f2, f3, f4, f5, f6⟩ | ⟨f1, f2, f3, f4, f5, f6⟩ | ⟨f1, f2, f3, f4, f5, f6⟩
      · exact Or.inl ⟨f1, by omega, by rw [f2]; exact f6⟩
      · exact Or.inr (Or.inl ⟨f1, by omega, by rw [f2]; exact f6⟩)
      · exact Or.inr (Or.inr ⟨f1, by omega, by rw [f2]; exact f6⟩)
  · rcases Nat.lt_or_ge i nl with z | z
    · obtain ⟨q, q1, q2, q3⟩ := c10 i z
      exact ⟨q, by omega, by rw [old kd k q q1]; exact q2, by rw [old nb b q q1]; exact q3⟩
    · refine ⟨Q, by omega, ?_, ?_⟩
      · rw [upN_o]; omega
      · rw [upN_o]; omega
  · rcases Nat.lt_or_ge i nt with z | z
    · obtain ⟨q, q1, q2, q3⟩ := c11 i z
      exact ⟨q, by omega, by rw [old kd k q q1]; exact q2, by rw [old nb b q q1]; exact q3⟩
    · refine ⟨Q, by omega, ?_, ?_⟩
      · rw [upN_o]; omega
      · rw [upN_o]; omega
  · rcases Nat.lt_or_ge i nu with z | z
    · obtain ⟨q, q1, q2, q3⟩ := c12 i z
      exact ⟨q, by omega, by rw [old kd k q q1]; exact q2, by rw [old nb b q q1]; exact q3⟩
    · refine ⟨Q, by omega, ?_, ?_⟩
      · rw [upN_o]; omega
      · rw [upN_o]; omega
  · rcases Nat.lt_or_eq_of_le (show q ≤ Q by omega) with z | z
    · rcases Nat.lt_or_eq_of_le (show r ≤ Q by omega) with y | y
      · rw [oldW q z, oldW r y] at e
        exact c13 q r z y e
      · rw [oldW q z, y, ownW] at e
        exact absurd e (hnew q z)
    · rcases Nat.lt_or_eq_of_le (show r ≤ Q by omega) with y | y
      · rw [z, ownW, oldW r y] at e
        exact absurd e.symm (hnew r y)
      · omega
/-- tell: the first reader's list of names -/
theorem tell_c {d q : Nat} {I : Nat → Nat → Int32} {L : Nat → Nat → Int64} {pu : Option Nat} (h14 : I 27 14 = nI q) (hq : q < 72) (l1 : Int64) (l3 l4 : Int32) : jv d 18 0 [some (.ref 27), some (.long l1), none, some (.int l3), some (.int l4)] [] (shC, I, L, pX pa pb pu pw) = some (none, (shC, j_up (j_up (j_up I 32 q l3) 33 q l4) 27 14 (nI (q + 1)), j_up L 31 q l1, pX pa pb pu pw)) := by
  have c1 : (nI q).toNatClampNeg = q := nI_clamp (by omega)
  have g1 : j_up I 32 q l3 27 14 = nI q := by rw [j_up_cell _ (by decide), h14]
  have g2 : j_up (j_up I 32 q l3) 33 q l4 27 14 = nI q := by rw [j_up_cell _ (by decide), g1]
  rw [B18_0]
  simp only [h14, c1, g1, g2]
  rw [if_pos (show nI q < (72 : Int32) from nI_lt (b := 72) hq (by decide)), if_pos (j_in_nI hq (by decide)), if_pos (j_in_nI hq (by decide)), if_pos (j_in_nI hq (by decide)), B18_50, show nI q + 1 = nI (q + 1) from nI_add q 1]
/-- a statement's first words: its name and the sign behind it -/
theorem head_sim {g d e n lim : Nat} {I J : Nat → Nat → Int32} {L L' : Nat → Nat → Int64} {now nc nr : Nat} {pu : Option Nat} (hg : g = 38 ∨ g = 49) (ok : pOk g T K P W U Q nm kd nb nl nt nu s cw rho now nc nr I L J L') (hK : K now = 97) (hn : n < lim) (hl : lim ≤ 40) (l1 l2 : Int32) :
    (∃ w I3 J3, okW w ∧ ¬ hadW Q nm s cw w ∧ jv (d + 3) 12 0 [some (.ref 27), some (.int (nI n)), some (.int (nI lim)), none, none] [] (shC, I, L, pX pa pb pu pw) = some (some (.long (lgN (nC w))), (shC, I3, L, pX pa pb pu pw)) ∧ jv (e + 2) 262 116 [some (.ref 0), some (.int l1), some (.int l2), none, none, none] [] (shR, J, L', pR) = jv (e + 2) 262 137 [some (.ref 0), some (.int l1), some (.int l2), some (.long (lgN (nR w))), none, none] [.int 1] (shR, J3, L', pR) ∧ eSt g T s now nc nr I L J L' (now + 1 + 1 + 1) nc nr I3 L J3 L' ∧ J3 0 29 = 0) ∨
    (∃ x I3 J3 m1 c1 m2 r2, jv (d + 3) 12 0 [some (.ref 27), some (.int (nI n)), some (.int (nI lim)), none, none] [] (shC, I, L, pX pa pb pu pw) = some (some (.long x), (shC, I3, L, pX pa pb pu pw)) ∧ jv (e + 2) 262 116 [some (.ref 0), some (.int l1), some (.int l2), none, none, none] [] (shR, J, L', pR) = some (none, (shR, J3, L', pR)) ∧ eF g T s now nc nr I L J L' m1 c1 m2 r2 I3 L J3 L') := by
  obtain ⟨tk, kw, hN, hC, a5, a6, a7, a8, a9, a10, a11, a12, a13⟩ := id ok
  have hT := tk.1
  have lt : now < T := tk.lt a5 hK (by decide)
  have st1 := eSt.adv hg ok.st lt
  have h291 : j_up J 0 28 (nI (now + 1)) 0 29 = 0 := by rw [j_up_own, if_neg (by decide)]; exact a9
  have ok1 := eSt.ok hg ok st1 h291
  rw [B12_0, if_pos (nI_lt hn (by omega)), B262_116, a10, a11, show nI now + 1 = nI (now + 1) from nI_add now 1]
  obtain ⟨n1, n2, n3⟩ := name_c d (pa := pa) (pb := pb) (pu := pu) (pw := pw) ok1 none none
  obtain ⟨r1, r2, r3⟩ := name_r e ok1 none none none none
  have nof : ∀ f, 1 ≤ f ∧ f ≤ 6 → jv (d + 2) 19 0 [some (.ref 27), none, none] [] (shC, j_up I 27 7 (nI (now + 1)), L, pX pa pb pu pw) = some (some (.long 0), (shC, flC (j_up I 27 7 (nI (now + 1))) f (P (now + 1)), L, pX pa pb pu pw)) → jv (e + 1) 263 0 [some (.ref 0), none, none, none, none] [] (shR, j_up J 0 28 (nI (now + 1)), L', pR) = some (some (.long 0), (shR, flR (j_up J 0 28 (nI (now + 1))) f (P (now + 1)), L', pR)) → ∃ x I3 J3 m1 c1 m2 r2, jgo jTT jMM (d + 3) 19 [.ref 27] (shC, j_up I 27 7 (nI (now + 1)), L, pX pa pb pu pw) (fun v S => jv (d + 3) 12 31 [some (.ref 27), some (.int (nI n)), some (.int (nI lim)), none, none] (v.toList ++ []) S) = some (some (.long x), (shC, I3, L, pX pa pb pu pw)) ∧ jgo jTT jMM (e + 2) 263 [.ref 0] (shR, j_up J 0 28 (nI (now + 1)), L', pR) (fun v S => jv (e + 2) 262 130 [some (.ref 0), some (.int l1), some (.int l2), none, none, none] (v.toList ++ []) S) = some (none, (shR, J3, L', pR)) ∧ eF g T s now nc nr I L J L' m1 c1 m2 r2 I3 L J3 L' := by
    intro f hf ec er
    have hf := eSt.fl hg st1 (f := f) (p := P (now + 1)) hf (by omega)
    refine ⟨0, _, _, _, _, _, _, ?_, ?_, hf⟩
    · rw [jgo_some (d := d + 2) rfl ec]
      dsimp only [Option.toList_some, Option.toList_none, List.cons_append, List.nil_append]
      rw [B12_31, jgo_some (d := d + 2) rfl (expect_cf (d := d + 1) hf.f.1 _)]
      dsimp only [Option.toList_some, Option.toList_none, List.cons_append, List.nil_append]
      rw [B12_38]
    · rw [jgo_some (d := e + 1) rfl er]
      dsimp only [Option.toList_some, Option.toList_none, List.cons_append, List.nil_append]
      rw [B262_130, jgo_some (d := e + 1) rfl (want_rf hf.f.2 _)]
      dsimp only [Option.toList_some, Option.toList_none, List.cons_append, List.nil_append]
      rw [B262_137, if_neg hf.f.2]
  by_cases q2 : K (now + 1) = 97
  case neg => exact Or.inr (nof 2 (by decide) (n1 q2) (r1 q2))
  by_cases q3 : hadW Q nm s cw (W (now + 1))
  case pos => exact Or.inr (nof 4 (by decide) (n2 q2 q3) (r2 q2 q3))
  clear nof
  rw [jgo_some (d := d + 2) rfl (n3 q2 q3), jgo_some (d := e + 1) rfl (r3 q2 q3)]
  dsimp only [Option.toList_some, Option.toList_none, List.cons_append, List.nil_append]
  rw [B12_31, B262_130]
  have lt1 := tk.lt st1.2.2.2.1 q2 (by decide)
  have hw : okW (W (now + 1)) := (tk.2.2.2.2.2.1 (now + 1) lt1 q2).1
  have st2 := eSt.adv hg st1 lt1
  have h292 : j_up (j_up J 0 28 (nI (now + 1))) 0 28 (nI (now + 1 + 1)) 0 29 = 0 := by rw [j_up_own, if_neg (by decide)]; exact h291
  rcases want_ok hg ok.1 st2 h292 (show nc ≤ 1201 by omega) (k := 61) (by decide) (by decide) (d + 1) e pa pb pu pw with ⟨q, ec, er, lt2, st3, h293⟩ | ⟨q, I2, J2, m1, c1, m2, r2', ec, er, hf⟩
  · refine Or.inl ⟨_, _, _, hw, q3, ?_, ?_, st3, h293⟩
    · rw [show (61 : Int32) = nI 61 from rfl, jgo_some (d := d + 2) rfl ec]
      dsimp only [Option.toList_some, Option.toList_none, List.cons_append, List.nil_append]
      rw [B12_38]
    · rw [show (61 : Int32) = nI (kR 61) from rfl, jgo_some (d := e + 1) rfl er]
      dsimp only [Option.toList_some, Option.toList_none, List.cons_append, List.nil_append]
  · refine Or.inr ⟨lgN (nC (W (now + 1))), _, _, _, _, _, _, ?_, ?_, hf⟩
    · rw [show (61 : Int32) = nI 61 from rfl, jgo_some (d := d + 2) rfl ec]
      dsimp only [Option.toList_some, Option.toList_none, List.cons_append, List.nil_append]
      rw [B12_38]
    · rw [show (61 : Int32) = nI (kR 61) from rfl, jgo_some (d := e + 1) rfl er]
      dsimp only [Option.toList_some, Option.toList_none, List.cons_append, List.nil_append]
      rw [B262_137, if_neg hf.f.2]
end PARS
