/-! RULES: lets and rules -/
section PART
variable {T : Nat} {K P : Nat → Nat} {W : Nat → List Nat} {U : Nat → Nat} {Q : Nat} {nm : Nat → List Nat} {kd nb : Nat → Nat} {nl nt nu s : Nat} {cw : Nat → List Nat} {rho : Nat → Nat} {lam : Nat} {pa pb pw : Option Nat}
/-- what telling a name leaves as it was -/
def tF (g : Nat) (I I6 : Nat → Nat → Int32) (L L6 : Nat → Nat → Int64) (J J6 : Nat → Nat → Int32) (L' L6' : Nat → Nat → Int64) : Prop :=
  (∀ c, c ≠ 27 → c ≠ 32 → c ≠ 33 → c < g ∨ (g < c ∧ c < g + 6) ∨ g + 10 < c → I6 c = I c) ∧ (∀ q, q ≠ 14 → I6 27 q = I 27 q) ∧ (∀ q, q < 11 ∨ 13 < q → I6 g q = I g q) ∧ (∀ c, c ≠ 31 → L6 c = L c) ∧ (∀ c, c ≠ 0 → c ≠ 27 → c ≠ 29 → c ≠ 30 → c ≠ 34 → J6 c = J c) ∧ (∀ q, q ≠ 39 → q ≠ 45 → q ≠ 46 → q ≠ 49 → J6 0 q = J 0 q) ∧ (∀ c, c ≠ 26 → c ≠ 28 → c ≠ 31 → c ≠ 32 → c ≠ 33 → L6' c = L' c)
theorem sFr.tell {g : Nat} (hg : g = 38 ∨ g = 49) {I J I1 J1 : Nat → Nat → Int32} {L L' L1 L1' : Nat → Nat → Int64} (f : tF g I I1 L L1 J J1 L' L1') : sFr g I I1 L L1 J J1 L' L1' :=
  ⟨fun c h1 h2 => f.1 c (by omega) (by omega) (by omega) (by omega), f.1 28 (by decide) (by decide) (by decide) (by omega), f.1 29 (by decide) (by decide) (by decide) (by omega), fun q h1 h2 h3 h4 h5 => f.2.1 q h4, fun q h => f.2.2.1 q (by omega), fun c h1 h2 => f.2.2.2.1 c h1, fun c h1 h2 => f.2.2.2.2.1 c h1 (by omega) (by omega) (by omega) (by omega), fun q h => f.2.2.2.2.2.1 q (by omega) (by omega) (by omega) (by omega), fun c h => f.2.2.2.2.2.2 c (by omega) (by omega) (by omega) (by omega) (by omega)⟩
theorem pOk.tell {g : Nat} (hg : g = 38 ∨ g = 49) {I J I6 J6 : Nat → Nat → Int32} {L L' L6 L6' : Nat → Nat → Int64} {now nc nr : Nat} (ok : pOk g T K P W U Q nm kd nb nl nt nu 0 cw rho now nc nr I L J L') (f : tF g I I6 L L6 J J6 L' L6') {Q2 : Nat} {nm2 : Nat → List Nat} {kd2 nb2 : Nat → Nat} {nl2 nt2 nu2 : Nat} (hn : nmS Q2 nm2 kd2 nb2 nl2 nt2 nu2 I6 L6 J6 L6') : pOk g T K P W U Q2 nm2 kd2 nb2 nl2 nt2 nu2 0 cw rho now nc nr I6 L6 J6 L6' := by
  obtain ⟨a1, a2, a3, a4, a5, a6, a7, a8, a9, a10, a11, a12, a13⟩ := ok
  obtain ⟨f1, f2, f3, f4, f5, f6, f7⟩ := f
  have j0 : ∀ q, q ≠ 39 → q ≠ 45 → q ≠ 46 → q ≠ 49 → J6 0 q = J 0 q := f6
  refine ⟨a1.frame (f2 6 (by decide)) (f1 28 (by decide) (by decide) (by decide) (by omega)) (f1 29 (by decide) (by decide) (by decide) (by omega)) (f4 30 (by decide)) (f5 18 (by decide) (by decide) (by decide) (by decide) (by decide)) (f5 19 (by decide) (by decide) (by decide) (by decide) (by decide)) (f7 20 (by decide) (by decide) (by decide) (by decide) (by decide)), ?_, hn, ?_, a5, a6, a7, (f2 0 (by decide)).trans a8, (f6 29 (by decide) (by decide) (by decide) (by decide)).trans a9, (f2 7 (by decide)).trans a10, (f6 28 (by decide) (by decide) (by decide) (by decide)).trans a11, (f3 10 (by decide)).trans a12, (f6 36 (by decide) (by decide) (by decide) (by decide)).trans a13⟩
  · unfold kwS at a2 ⊢
    rw [f4 35 (by decide), f4 36 (by decide), f4 37 (by decide)]
    exact a2
  · exact a4.frame ((f2 16 (by decide)).trans a4.2.1) ((f6 52 (by decide) (by decide) (by decide) (by decide)).trans a4.2.2.1) (fun i hi => absurd hi (Nat.not_lt_zero _)) (fun i hi => absurd hi (Nat.not_lt_zero _)) (fun i hi => absurd hi (Nat.not_lt_zero _)) (fun x hx => by rw [f6 36 (by decide) (by decide) (by decide) (by decide)]; exact hx)
theorem prL.mv {g nc nr nc2 nr2 nt2 : Nat} {wl wl2 : Nat → Nat} {I J I2 J2 : Nat → Nat → Int32} {L' L2' : Nat → Nat → Int64} (h : prL g nl nt wl nc nr I J L') (ht : nt ≤ nt2) (hc : nc ≤ nc2) (hr : nr ≤ nr2) (e1 : ∀ i, i < nl → I2 (g + 6) i = I (g + 6) i) (e2 : ∀ i, i < nl → J2 27 i = J 27 i) (f1 : ∀ c, c < 5 → ∀ i, i < nc → I2 (g + 1 + c) i = I (g + 1 + c) i) (f2 : ∀ c, c < 4 → ∀ i, i < nr → J2 (21 + c) i = J (21 + c) i) (f3 : ∀ i, i < nr → L2' 25 i = L' 25 i) (hw : ∀ i, i ≤ nl → wl2 i = wl i) : prL g nl nt2 wl2 nc2 nr2 I2 J2 L2' := by
  intro i hi
  obtain ⟨n, k, mt, z1, z2, z3, z4⟩ := h i hi
  refine ⟨n, k, mt, by omega, (e1 i hi).trans z2, (e2 i hi).trans z3, ?_⟩
  rw [hw i (by omega), hw (i + 1) (by omega)]
  exact z4.frame (Nat.le_refl _) (Nat.le_refl _) (Nat.le_refl _) hc (Nat.le_refl _) hr (fun c hc i _ i2 => f1 c hc i i2) (fun c hc i _ i2 => f2 c hc i i2) (fun i _ i2 => f3 i i2)
theorem prU.mv {g nc nr nc2 nr2 nl2 nt2 : Nat} {wl wl2 : Nat → Nat} {I J I2 J2 : Nat → Nat → Int32} {L' L2' : Nat → Nat → Int64} (h : prU g nl nt nu wl nc nr I J L') (hl : nl ≤ nl2) (ht : nt ≤ nt2) (hc : nc ≤ nc2) (hr : nr ≤ nr2) (e1 : ∀ i, i < nu → I2 (g + 7) i = I (g + 7) i) (e2 : ∀ i, i < nu → J2 34 i = J 34 i) (f1 : ∀ c, c < 5 → ∀ i, i < nc → I2 (g + 1 + c) i = I (g + 1 + c) i) (f2 : ∀ c, c < 4 → ∀ i, i < nr → J2 (21 + c) i = J (21 + c) i) (f3 : ∀ i, i < nr → L2' 25 i = L' 25 i) (hw : ∀ i, i ≤ nl → wl2 i = wl i) : prU g nl2 nt2 nu wl2 nc2 nr2 I2 J2 L2' := by
  intro i hi
  obtain ⟨n, k, m, mt, w, y1, z1, z5, z2, z3, z4⟩ := h i hi
  refine ⟨n, k, m, mt, w, by omega, by omega, z5, (e1 i hi).trans z2, (e2 i hi).trans z3, ?_⟩
  rw [hw m y1]
  exact z4.frame (Nat.le_refl _) (Nat.le_refl _) (Nat.le_refl _) hc (Nat.le_refl _) hr (fun c hc i _ i2 => f1 c hc i i2) (fun c hc i _ i2 => f2 c hc i i2) (fun i _ i2 => f3 i i2)
theorem prT.mv {g np np2 : Nat} {I J I2 J2 : Nat → Nat → Int32} {L' L2' : Nat → Nat → Int64} (h : prT g nt np I J L') (hp : np ≤ np2) (e1 : ∀ i, i < nt → J2 29 i = J 29 i) (e2 : ∀ i, i < nt → J2 30 i = J 30 i) (e3 : ∀ i, i < nt → I2 (g + 10) i = I (g + 10) i) (e4 : ∀ i, i < 12 * nt → I2 (g + 8) i = I (g + 8) i) (e5 : ∀ i, i < 12 * nt → I2 (g + 9) i = I (g + 9) i) (e6 : ∀ i, i < np → L2' 31 i = L' 31 i) (e7 : ∀ i, i < np → L2' 32 i = L' 32 i) : prT g nt np2 I2 J2 L2' := by
  intro t ht
  obtain ⟨a, m, z1, z2, z3, z4, z5, z6, z7, z8⟩ := h t ht
  refine ⟨a, m, z1, z2, by omega, (e1 t ht).trans z4, (e2 t ht).trans z5, (e3 t ht).trans z6, fun j hj => ?_, fun j hj => ?_⟩
  · rw [e4 _ (by omega), e5 _ (by omega), e6 _ (by omega), e7 _ (by omega)]; exact z7 j hj
  · rw [e6 _ (by omega), e6 _ (by omega)]; exact z8 j hj
/-- a let is kept -/
theorem pS.let38 {wl : Nat → Nat} {np : Nat} {I J : Nat → Nat → Int32} {L L' : Nat → Nat → Int64} {now nc nr : Nat} (hS : pS 38 T K P W U Q nm kd nb nl nt nu wl np now nc nr I L J L') (hl : nl < 40) {now5 nc5 nr5 n k : Nat} {I5 J5 : Nat → Nat → Int32} {L5 L5' : Nat → Nat → Int64} (st : eSt 38 T 0 now nc nr I L J L' now5 nc5 nr5 I5 L5 J5 L5') (h29 : J5 0 29 = 0) {w : List Nat} (hw : okW w) (hnew : ¬ hadW Q nm 0 cw0 w) {wt : Nat} (hwt : wl nl ≤ wt ∧ wt ≤ now5) (p5 : pst 38 I5 J5 L5' nl nt (wl nl) 75 true wt 0 rho0 0 nc5 0 nr5 n k) : sFr 38 I (j_up (j_up (j_up (j_up (j_up I5 (38 + 6) nl (nI n)) 32 Q 2) 33 Q (nI nl)) 27 14 (nI (Q + 1))) 38 11 (nI (nl + 1))) L (j_up L5 31 Q (lgN (nC w))) J (j_up (j_up J5 27 nl (nI k)) 0 39 (nI (nl + 1))) L' (j_up L5' 26 nl (lgN (nR w))) ∧ pS 38 T K P W U (Q + 1) (upW nm Q w) (upN kd Q 2) (upN nb Q nl) (nl + 1) nt nu (fun i => if i ≤ nl then wl i else wt) np now5 nc5 nr5 (j_up (j_up (j_up (j_up (j_up I5 (38 + 6) nl (nI n)) 32 Q 2) 33 Q (nI nl)) 27 14 (nI (Q + 1))) 38 11 (nI (nl + 1))) (j_up L5 31 Q (lgN (nC w))) (j_up (j_up J5 27 nl (nI k)) 0 39 (nI (nl + 1))) (j_up L5' 26 nl (lgN (nR w))) := by
  have hg : 38 = 38 ∨ 38 = 49 := by decide
  obtain ⟨ok, s1, s2, s3, s4, s5, s6, s7, s8, s9, s10, s11⟩ := hS
  have ok5 := eSt.ok hg ok st h29
  obtain ⟨_, _, hN, hC, _⟩ := id ok5
  have f : tF 38 I5 (j_up (j_up (j_up (j_up (j_up I5 (38 + 6) nl (nI n)) 32 Q 2) 33 Q (nI nl)) 27 14 (nI (Q + 1))) 38 11 (nI (nl + 1))) L5 (j_up L5 31 Q (lgN (nC w))) J5 (j_up (j_up J5 27 nl (nI k)) 0 39 (nI (nl + 1))) L5' (j_up L5' 26 nl (lgN (nR w))) :=
    ⟨fun c h1 h2 h3 h4 => by rw [j_up_cell _ (by omega), j_up_cell _ (by omega), j_up_cell _ (by omega), j_up_cell _ (by omega), j_up_cell _ (by omega)], fun q h1 => by rw [j_up_cell _ (by decide), j_up_own, if_neg h1, j_up_cell _ (by decide), j_up_cell _ (by decide), j_up_cell _ (by decide)], fun q h1 => by rw [j_up_own, if_neg (by omega), j_up_cell _ (by decide), j_up_cell _ (by decide), j_up_cell _ (by decide), j_up_cell _ (by decide)], fun c h1 => by rw [j_up_cell _ h1], fun c h1 h2 h3 h4 h5 => by rw [j_up_cell _ h1, j_up_cell _ h2], fun q h1 h2 h3 h4 => by rw [j_up_own, if_neg h1, j_up_cell _ (by decide)], fun c h1 h2 h3 h4 h5 => by rw [j_up_cell _ h1]⟩
  have n1 := nmS.tell (I1 := j_up (j_up (j_up (j_up (j_up I5 (38 + 6) nl (nI n)) 32 Q 2) 33 Q (nI nl)) 27 14 (nI (Q + 1))) 38 11 (nI (nl + 1))) (L1 := j_up L5 31 Q (lgN (nC w))) (J1 := j_up (j_up J5 27 nl (nI k)) 0 39 (nI (nl + 1))) (L1' := j_up L5' 26 nl (lgN (nR w))) hN (by have := hN.2.2.1; have := hN.2.2.2.1; have := hN.2.2.2.2.1; omega) hw (fun q hq z => hnew (Or.inr (Or.inr (Or.inr (Or.inl ⟨q, hq, z⟩))))) (k := 2) (b := nl) (nl2 := nl + 1) (nt2 := nt) (nu2 := nu) ⟨by omega, by omega⟩ ⟨Nat.le_refl _, hN.2.2.2.1⟩ ⟨Nat.le_refl _, hN.2.2.2.2.1⟩ (by rw [j_up_cell _ (by decide), j_up_own, if_pos rfl]) (by rw [j_up_own, if_pos rfl]) (by rw [j_up_own, if_neg (by decide), j_up_cell _ (by decide)]; exact hN.2.2.2.2.2.2.1) (by rw [j_up_own, if_neg (by decide), j_up_cell _ (by decide)]; exact hN.2.2.2.2.2.2.2.1) (fun q hq => by rw [j_up_own, if_neg (by omega)]) (by rw [j_up_own, if_pos rfl]) (fun q hq => by rw [j_up_cell _ (by decide), j_up_cell _ (by decide), j_up_cell _ (by decide), j_up_own, if_neg (by omega), j_up_cell _ (by decide)]) (by rw [j_up_cell _ (by decide), j_up_cell _ (by decide), j_up_cell _ (by decide), j_up_own, if_pos rfl]; rfl) (fun q hq => by rw [j_up_cell _ (by decide), j_up_cell _ (by decide), j_up_own, if_neg (by omega), j_up_cell _ (by decide), j_up_cell _ (by decide)]) (by rw [j_up_cell _ (by decide), j_up_cell _ (by decide), j_up_own, if_pos rfl]) (fun i hi => by rw [j_up_own, if_neg (by omega)]) (fun i hi => by rw [j_up_cell _ (by decide)]) (fun i hi => by rw [j_up_cell _ (by decide)]) (Or.inl ⟨rfl, rfl, rfl, rfl, rfl, by rw [j_up_own, if_pos rfl]⟩)
  have g1 : ∀ c, c < 5 → ∀ i, i < nc → (j_up (j_up (j_up (j_up (j_up I5 (38 + 6) nl (nI n)) 32 Q 2) 33 Q (nI nl)) 27 14 (nI (Q + 1))) 38 11 (nI (nl + 1))) (38 + 1 + c) i = I (38 + 1 + c) i := fun c hc i hi => by rw [f.1 (38 + 1 + c) (by omega) (by omega) (by omega) (by omega)]; exact st.1.2.2.1 c hc i hi
  have g2 : ∀ c, c < 4 → ∀ i, i < nr → (j_up (j_up J5 27 nl (nI k)) 0 39 (nI (nl + 1))) (21 + c) i = J (21 + c) i := fun c hc i hi => by rw [f.2.2.2.2.1 (21 + c) (by omega) (by omega) (by omega) (by omega) (by omega)]; exact st.2.1.2.1 c hc i hi
  have g3 : ∀ i, i < nr → j_up L5' 26 nl (lgN (nR w)) 25 i = L' 25 i := fun i hi => by rw [j_up_cell _ (by decide)]; exact st.2.1.2.2.2.2.2.1 i hi
  have eI : ∀ c, c = 38 + 7 ∨ c = 38 + 8 ∨ c = 38 + 9 ∨ c = 38 + 10 → (j_up (j_up (j_up (j_up (j_up I5 (38 + 6) nl (nI n)) 32 Q 2) 33 Q (nI nl)) 27 14 (nI (Q + 1))) 38 11 (nI (nl + 1))) c = I c := fun c h => by rw [j_up_cell _ (by omega), j_up_cell _ (by omega), j_up_cell _ (by omega), j_up_cell _ (by omega), j_up_cell _ (by omega)]; exact st.1.1 c (by omega) (by omega)
  have eJ : ∀ c, c = 29 ∨ c = 30 ∨ c = 34 → (j_up (j_up J5 27 nl (nI k)) 0 39 (nI (nl + 1))) c = J c := fun c h => by rw [j_up_cell _ (by omega), j_up_cell _ (by omega)]; exact st.2.1.1 c (by omega) (by omega) (by omega)
  have eL : ∀ c, c = 31 ∨ c = 32 → (j_up L5' 26 nl (lgN (nR w))) c = L' c := fun c h => by rw [j_up_cell _ (by omega)]; exact st.2.1.2.2.2.2.1 c (by omega) (by omega)
  refine ⟨(sFr.of hg st.1 st.2.1).trans (sFr.tell hg f), pOk.tell hg ok5 f n1, ?_, ?_, ?_, by omega, ?_, s6, ?_, ?_, ?_, ?_, ?_⟩
  · rw [j_up_own, if_pos rfl]
  · rw [j_up_own, if_neg (by decide), j_up_cell _ (by decide), j_up_cell _ (by decide), j_up_cell _ (by decide), j_up_cell _ (by decide)]; exact (st.1.2.1 12 (by decide)).trans s2
  · rw [j_up_own, if_neg (by decide), j_up_cell _ (by decide), j_up_cell _ (by decide), j_up_cell _ (by decide), j_up_cell _ (by decide)]; exact (st.1.2.1 13 (by decide)).trans s3
  · rw [j_up_own, if_neg (by decide), j_up_cell _ (by decide)]; exact (st.2.1.2.2.2.1 45 (by decide) (by decide) (by decide) (by decide) (by decide)).trans s5
  · intro i hi
    rcases Nat.lt_or_eq_of_le (show i ≤ nl by omega) with z | z
    · exact prL.mv s7 (Nat.le_refl _) st.2.2.2.2.1 st.2.2.2.2.2.1 (fun i hi => by rw [j_up_cell _ (by decide), j_up_cell _ (by decide), j_up_cell _ (by decide), j_up_cell _ (by decide), j_up_own, if_neg (by omega)]; exact congrFun (st.1.1 (38 + 6) (by decide) (by omega)) i) (fun i hi => by rw [j_up_cell _ (by decide), j_up_own, if_neg (by omega)]; exact congrFun (st.2.1.1 27 (by decide) (by decide) (by decide)) i) g1 g2 g3 (fun i hi => if_pos hi) i z
    · subst z
      refine ⟨n, k, nt, Nat.le_refl _, ?_, ?_, ?_⟩
      · rw [j_up_cell _ (by decide), j_up_cell _ (by decide), j_up_cell _ (by decide), j_up_cell _ (by decide), j_up_own, if_pos rfl]
      · rw [j_up_cell _ (by decide), j_up_own, if_pos rfl]
      · dsimp only
        rw [if_pos (Nat.le_refl _), if_neg (by omega)]
        exact p5.eqs (Nat.le_refl _) (Nat.le_refl _) (fun c hc => f.1 (38 + 1 + c) (by omega) (by omega) (by omega) (by omega)) (fun c hc => f.2.2.2.2.1 (21 + c) (by omega) (by omega) (by omega) (by omega) (by omega)) (j_up_cell _ (by decide) _ _)
  · exact prU.mv s8 (by omega) (Nat.le_refl _) st.2.2.2.2.1 st.2.2.2.2.2.1 (fun i hi => by rw [eI (38 + 7) (by decide)]) (fun i hi => by rw [eJ 34 (by decide)]) g1 g2 g3 (fun i hi => if_pos hi)
  · exact prT.mv s9 (Nat.le_refl _) (fun i hi => by rw [eJ 29 (by decide)]) (fun i hi => by rw [eJ 30 (by decide)]) (fun i hi => by rw [eI (38 + 10) (by decide)]) (fun i hi => by rw [eI (38 + 8) (by decide)]) (fun i hi => by rw [eI (38 + 9) (by decide)]) (fun i hi => by rw [eL 31 (by decide)]) (fun i hi => by rw [eL 32 (by decide)])
  · intro i j hij
    show (if i ≤ nl then wl i else wt) ≤ (if j ≤ nl then wl j else wt)
    by_cases q1 : i ≤ nl
    · rw [if_pos q1]
      by_cases q2 : j ≤ nl
      · rw [if_pos q2]; exact s10 i j hij
      · rw [if_neg q2]; exact Nat.le_trans (s10 i nl q1) hwt.1
    · rw [if_neg q1, if_neg (by omega)]; exact Nat.le_refl _
  · show (if nl + 1 ≤ nl then wl (nl + 1) else wt) ≤ now5
    rw [if_neg (by omega)]; exact hwt.2
theorem let_sim38 {d e : Nat} (hd : 140 ≤ d) (he : 140 ≤ e) {wl : Nat → Nat} {np : Nat} {I J : Nat → Nat → Int32} {L L' : Nat → Nat → Int64} {now nc nr : Nat} (hS : pS 38 T K P W U Q nm kd nb nl nt nu wl np now nc nr I L J L') (hK : K now = 97) : jW2 (jv d 13 0 [some (.ref 27), none, none, none] [] (shC, I, L, pX pa pb (some 38) pw)) (jv e 262 43 [some (.ref 0), none, none, none, none, none] [.int 1] (shR, J, L', pR)) (sQ 38 T K P W U now I L J L' (pX pa pb (some 38) pw)) := by
  have hg : 38 = 38 ∨ 38 = 49 := by decide
  obtain ⟨ok, s1, s2, s3, s4, s5, s6, s7, s8, s9, s10, s11⟩ := id hS
  obtain ⟨tk, kw, hN, hC, a5, a6, a7, a8, a9, a10, a11, a12, a13⟩ := id ok
  have hT := tk.1
  have tq := tk.2.2.2.1 now a5
  obtain ⟨d, rfl⟩ : ∃ d', d = d' + 5 := ⟨d - 5, by omega⟩
  obtain ⟨e, rfl⟩ : ∃ e', e = e' + 5 := ⟨e - 5, by omega⟩
  -- behind a fault the first reader goes on
  have ff : ∀ (I3 : Nat → Nat → Int32) (L3 : Nat → Nat → Int64) (x : Int64), I3 27 0 ≠ 0 → jv (d + 5) 13 13 [some (.ref 27), none, none, none] [.long x] (shC, I3, L3, pX pa pb (some 38) pw) = some (none, (shC, I3, L3, pX pa pb (some 38) pw)) := by
    intro I3 L3 x h0
    rw [B13_13_g38, jgo_some (d := d + 4) rfl (sum_cf38 (d := d + 1) h0 _ _ _ _ _ _)]
    dsimp only [Option.toList_some, Option.toList_none, List.cons_append, List.nil_append]
    rw [B13_19_g38, jgo_some (d := d + 4) rfl (expect_cf (d := d + 3) h0 _)]
    dsimp only [Option.toList_some, Option.toList_none, List.cons_append, List.nil_append]
    rw [B13_26_g38, if_pos rfl, B13_71_g38]
  rw [B13_0_g38, s1, B262_43, a11, if_pos (j_in_nI (by omega) (by decide)), nI_clamp (by omega), tq.2.2.2.1, if_neg (by decide), if_pos rfl, hN.2.2.2.2.2.1]
  by_cases hl : nl = 40
  · rw [if_pos (by rw [hl]; rfl), B262_108, show (5 : Int32) = nI 5 from rfl, jgo_some (d := e + 4) rfl (fails_rk a9 5 (P now))]
    have c12 : jv (d + 4) 12 0 [some (.ref 27), some (.int (nI nl)), some (.int 40), none, none] [] (shC, I, L, pX pa pb (some 38) pw) = some (some (.long 0), (shC, flC I 5 (P now), L, pX pa pb (some 38) pw)) := by
      rw [B12_0, if_neg (by rw [hl]; decide), a10, show (5 : Int32) = nI 5 from rfl, jgo_some (d := d + 3) rfl (fail_c tk a5 a8 5)]
      dsimp only [Option.toList_some, Option.toList_none, List.cons_append, List.nil_append]
      rw [B12_14]
    have hf := eSt.fl hg ok.st (f := 5) (p := P now) (by decide) (by omega)
    rw [jgo_some (d := d + 4) rfl c12]
    dsimp only [Option.toList_some, Option.toList_none, List.cons_append, List.nil_append]
    rw [ff _ _ _ hf.f.1, B262_114]
    exact jW2_some (sQ.bad (sFr.of hg hf.1 hf.2.1) hf.b)
  have hl2 : nl < 40 := by have := hN.2.2.1; omega
  rw [if_neg (show ¬ nI nl = (40 : Int32) from fun z => hl ((nI_eq (b := 40) (by omega) (by decide)).mp z)), B262_80, if_neg (by decide), B262_94, if_neg (by decide)]
  rcases head_sim (d := d + 1) (e := e + 3) (pa := pa) (pb := pb) (pu := some 38) (pw := pw) hg ok hK hl2 (by decide) 1 (nI (P now)) with ⟨w, I3, J3, hw, hnew, ec, er, st3, h293⟩ | ⟨x, I3, J3, m1, c1, m2, r2, ec, er, hf⟩
  case inr =>
    rw [show (40 : Int32) = nI 40 from rfl, jgo_some (d := d + 4) rfl ec, er]
    dsimp only [Option.toList_some, Option.toList_none, List.cons_append, List.nil_append]
    rw [ff _ _ _ hf.f.1]
    exact jW2_some (sQ.bad (sFr.of hg hf.1 hf.2.1) hf.b)
  rw [show (40 : Int32) = nI 40 from rfl, jgo_some (d := d + 4) rfl ec, er]
  dsimp only [Option.toList_some, Option.toList_none, List.cons_append, List.nil_append]
  rw [B13_13_g38, B262_137, if_pos h293, if_pos rfl]
  have ok3 := eSt.ok hg ok st3 h293
  refine jW2_go rfl rfl ((top_sim38 (lam := wl nl) (by omega) (by omega)).1 _ _ _ _ _ _ _ ok3) ?_
  intro v S w' S' hq
  obtain ⟨I4, L4, J4, L4', x, y, rfl, rfl, rfl, rfl, vc, vr, I5, J5, ec5, er5, hw5⟩ := eQ.w (d := d + 3) (e := e + 3) hg ok st3 hq (k := 59) (by decide) (by decide) (by decide)
  dsimp only [Option.toList_some, Option.toList_none, List.cons_append, List.nil_append]
  rw [B13_19_g38, B262_156, show (59 : Int32) = nI 59 from rfl, jgo_some (d := d + 4) rfl ec5, show nI 59 = nI (kR 59) from rfl, jgo_some (d := e + 4) rfl er5]
  dsimp only [Option.toList_some, Option.toList_none, List.cons_append, List.nil_append]
  rw [B13_26_g38, B262_164]
  rcases hw5 with ⟨now5, nc5, nr5, n, k, rfl, rfl, lt5, gc5, gr5, hc5, hr5, st5, fc5, fr5, h295, p5, v5⟩ | ⟨m1, c1, m2, r2, v0, hf⟩
  · have j39 : J5 0 39 = nI nl := (st5.2.1.2.2.2.1 39 (by decide) (by decide) (by decide) (by decide) (by decide)).trans hN.2.2.2.2.2.1
    have i11 : I5 38 11 = nI nl := (st5.1.2.1 11 (by decide)).trans s1
    have hN5 := (eSt.ok hg ok st5 h295).2.2.1
    have hQ : Q < 72 := by have := hN.2.2.1; have := hN.2.2.2.1; have := hN.2.2.2.2.1; omega
    rw [v5, if_neg (by decide), i11, if_pos (j_in_nI hl2 (by decide)), nI_clamp (by omega), j_up_cell _ (show 38 ≠ 44 by decide), i11, j39, if_pos (j_in_nI (by omega) (by decide)), if_pos (j_in_nI (by omega) (by decide)), nI_clamp (by omega), j_up_cell _ (show 0 ≠ 27 by decide), if_pos h295, j39, B262_203, B262_335, show nI nl + 1 = nI (nl + 1) from nI_add nl 1, jgo_some (d := d + 4) rfl (tell_c (d := d + 4) (q := Q) (by rw [j_up_cell _ (by decide)]; exact hN5.2.1) hQ _ _ _)]
    dsimp only [Option.toList_some, Option.toList_none, List.cons_append, List.nil_append]
    rw [B13_58_g38, B13_71_g38, j_up_cell _ (show 38 ≠ 27 by decide), j_up_cell _ (show 38 ≠ 33 by decide), j_up_cell _ (show 38 ≠ 32 by decide), j_up_cell _ (show 38 ≠ 44 by decide), i11, show nI nl + 1 = nI (nl + 1) from nI_add nl 1]
    have r := pS.let38 hS hl2 st5 h295 hw hnew (wt := wl nl + (now5 - (now + 1 + 1 + 1) - 1)) ⟨by omega, by omega⟩ (p5.wide (Nat.zero_le _) (Nat.le_refl _) (Nat.zero_le _) (Nat.le_refl _))
    exact jW2_some (sQ.ok r.1 (by omega) r.2)
  · have j39 : J5 0 39 = nI nl := (hf.2.1.2.2.2.1 39 (by decide) (by decide) (by decide) (by decide) (by decide)).trans hN.2.2.2.2.2.1
    rw [v0, if_pos rfl, B13_71_g38, j39, if_pos (j_in_nI (by omega) (by decide)), if_pos (j_in_nI (by omega) (by decide)), nI_clamp (by omega), j_up_cell _ (show 0 ≠ 27 by decide), if_neg hf.f.2, B262_203, B262_335]
    refine jW2_some (sQ.bad ((sFr.of hg hf.1 hf.2.1).trans ⟨fun _ _ _ => rfl, rfl, rfl, fun _ _ _ _ _ _ => rfl, fun _ _ => rfl, fun _ _ _ => rfl, fun c h1 h2 => by rw [j_up_cell _ h1, j_up_cell _ (by omega)], fun q h => by rw [j_up_own, if_neg (by omega), j_up_cell _ (by decide)], fun c h => by rw [j_up_cell _ (by omega)]⟩) ?_)
    obtain ⟨f, p, f1, f2, f3, f4, f5, f6⟩ := hf.b
    exact ⟨f, p, f1, f2, f3, f4, by rw [j_up_own, if_neg (by decide), j_up_cell _ (by decide)]; exact f5, by rw [j_up_own, if_neg (by decide), j_up_cell _ (by decide)]; exact f6⟩
/-- a let is kept -/
theorem pS.let49 {wl : Nat → Nat} {np : Nat} {I J : Nat → Nat → Int32} {L L' : Nat → Nat → Int64} {now nc nr : Nat} (hS : pS 49 T K P W U Q nm kd nb nl nt nu wl np now nc nr I L J L') (hl : nl < 40) {now5 nc5 nr5 n k : Nat} {I5 J5 : Nat → Nat → Int32} {L5 L5' : Nat → Nat → Int64} (st : eSt 49 T 0 now nc nr I L J L' now5 nc5 nr5 I5 L5 J5 L5') (h29 : J5 0 29 = 0) {w : List Nat} (hw : okW w) (hnew : ¬ hadW Q nm 0 cw0 w) {wt : Nat} (hwt : wl nl ≤ wt ∧ wt ≤ now5) (p5 : pst 49 I5 J5 L5' nl nt (wl nl) 75 true wt 0 rho0 0 nc5 0 nr5 n k) : sFr 49 I (j_up (j_up (j_up (j_up (j_up I5 (49 + 6) nl (nI n)) 32 Q 2) 33 Q (nI nl)) 27 14 (nI (Q + 1))) 49 11 (nI (nl + 1))) L (j_up L5 31 Q (lgN (nC w))) J (j_up (j_up J5 27 nl (nI k)) 0 39 (nI (nl + 1))) L' (j_up L5' 26 nl (lgN (nR w))) ∧ pS 49 T K P W U (Q + 1) (upW nm Q w) (upN kd Q 2) (upN nb Q nl) (nl + 1) nt nu (fun i => if i ≤ nl then wl i else wt) np now5 nc5 nr5 (j_up (j_up (j_up (j_up (j_up I5 (49 + 6) nl (nI n)) 32 Q 2) 33 Q (nI nl)) 27 14 (nI (Q + 1))) 49 11 (nI (nl + 1))) (j_up L5 31 Q (lgN (nC w))) (j_up (j_up J5 27 nl (nI k)) 0 39 (nI (nl + 1))) (j_up L5' 26 nl (lgN (nR w))) := by
  have hg : 49 = 38 ∨ 49 = 49 := by decide
  obtain ⟨ok, s1, s2, s3, s4, s5, s6, s7, s8, s9, s10, s11⟩ := hS
  have ok5 := eSt.ok hg ok st h29
  obtain ⟨_, _, hN, hC, _⟩ := id ok5
  have f : tF 49 I5 (j_up (j_up (j_up (j_up (j_up I5 (49 + 6) nl (nI n)) 32 Q 2) 33 Q (nI nl)) 27 14 (nI (Q + 1))) 49 11 (nI (nl + 1))) L5 (j_up L5 31 Q (lgN (nC w))) J5 (j_up (j_up J5 27 nl (nI k)) 0 39 (nI (nl + 1))) L5' (j_up L5' 26 nl (lgN (nR w))) :=
    ⟨fun c h1 h2 h3 h4 => by rw [j_up_cell _ (by omega), j_up_cell _ (by omega), j_up_cell _ (by omega), j_up_cell _ (by omega), j_up_cell _ (by omega)], fun q h1 => by rw [j_up_cell _ (by decide), j_up_own, if_neg h1, j_up_cell _ (by decide), j_up_cell _ (by decide), j_up_cell _ (by decide)], fun q h1 => by rw [j_up_own, if_neg (by omega), j_up_cell _ (by decide), j_up_cell _ (by decide), j_up_cell _ (by decide), j_up_cell _ (by decide)], fun c h1 => by rw [j_up_cell _ h1], fun c h1 h2 h3 h4 h5 => by rw [j_up_cell _ h1, j_up_cell _ h2], fun q h1 h2 h3 h4 => by rw [j_up_own, if_neg h1, j_up_cell _ (by decide)], fun c h1 h2 h3 h4 h5 => by rw [j_up_cell _ h1]⟩
  have n1 := nmS.tell (I1 := j_up (j_up (j_up (j_up (j_up I5 (49 + 6) nl (nI n)) 32 Q 2) 33 Q (nI nl)) 27 14 (nI (Q + 1))) 49 11 (nI (nl + 1))) (L1 := j_up L5 31 Q (lgN (nC w))) (J1 := j_up (j_up J5 27 nl (nI k)) 0 39 (nI (nl + 1))) (L1' := j_up L5' 26 nl (lgN (nR w))) hN (by have := hN.2.2.1; have := hN.2.2.2.1; have := hN.2.2.2.2.1; omega) hw (fun q hq z => hnew (Or.inr (Or.inr (Or.inr (Or.inl ⟨q, hq, z⟩))))) (k := 2) (b := nl) (nl2 := nl + 1) (nt2 := nt) (nu2 := nu) ⟨by omega, by omega⟩ ⟨Nat.le_refl _, hN.2.2.2.1⟩ ⟨Nat.le_refl _, hN.2.2.2.2.1⟩ (by rw [j_up_cell _ (by decide), j_up_own, if_pos rfl]) (by rw [j_up_own, if_pos rfl]) (by rw [j_up_own, if_neg (by decide), j_up_cell _ (by decide)]; exact hN.2.2.2.2.2.2.1) (by rw [j_up_own, if_neg (by decide), j_up_cell _ (by decide)]; exact hN.2.2.2.2.2.2.2.1) (fun q hq => by rw [j_up_own, if_neg (by omega)]) (by rw [j_up_own, if_pos rfl]) (fun q hq => by rw [j_up_cell _ (by decide), j_up_cell _ (by decide), j_up_cell _ (by decide), j_up_own, if_neg (by omega), j_up_cell _ (by decide)]) (by rw [j_up_cell _ (by decide), j_up_cell _ (by decide), j_up_cell _ (by decide), j_up_own, if_pos rfl]; rfl) (fun q hq => by rw [j_up_cell _ (by decide), j_up_cell _ (by decide), j_up_own, if_neg (by omega), j_up_cell _ (by decide), j_up_cell _ (by decide)]) (by rw [j_up_cell _ (by decide), j_up_cell _ (by decide), j_up_own, if_pos rfl]) (fun i hi => by rw [j_up_own, if_neg (by omega)]) (fun i hi => by rw [j_up_cell _ (by decide)]) (fun i hi => by rw [j_up_cell _ (by decide)]) (Or.inl ⟨rfl, rfl, rfl, rfl, rfl, by rw [j_up_own, if_pos rfl]⟩)
  have g1 : ∀ c, c < 5 → ∀ i, i < nc → (j_up (j_up (j_up (j_up (j_up I5 (49 + 6) nl (nI n)) 32 Q 2) 33 Q (nI nl)) 27 14 (nI (Q + 1))) 49 11 (nI (nl + 1))) (49 + 1 + c) i = I (49 + 1 + c) i := fun c hc i hi => by rw [f.1 (49 + 1 + c) (by omega) (by omega) (by omega) (by omega)]; exact st.1.2.2.1 c hc i hi
  have g2 : ∀ c, c < 4 → ∀ i, i < nr → (j_up (j_up J5 27 nl (nI k)) 0 39 (nI (nl + 1))) (21 + c) i = J (21 + c) i := fun c hc i hi => by rw [f.2.2.2.2.1 (21 + c) (by omega) (by omega) (by omega) (by omega) (by omega)]; exact st.2.1.2.1 c hc i hi
  have g3 : ∀ i, i < nr → j_up L5' 26 nl (lgN (nR w)) 25 i = L' 25 i := fun i hi => by rw [j_up_cell _ (by decide)]; exact st.2.1.2.2.2.2.2.1 i hi
  have eI : ∀ c, c = 49 + 7 ∨ c = 49 + 8 ∨ c = 49 + 9 ∨ c = 49 + 10 → (j_up (j_up (j_up (j_up (j_up I5 (49 + 6) nl (nI n)) 32 Q 2) 33 Q (nI nl)) 27 14 (nI (Q + 1))) 49 11 (nI (nl + 1))) c = I c := fun c h => by rw [j_up_cell _ (by omega), j_up_cell _ (by omega), j_up_cell _ (by omega), j_up_cell _ (by omega), j_up_cell _ (by omega)]; exact st.1.1 c (by omega) (by omega)
  have eJ : ∀ c, c = 29 ∨ c = 30 ∨ c = 34 → (j_up (j_up J5 27 nl (nI k)) 0 39 (nI (nl + 1))) c = J c := fun c h => by rw [j_up_cell _ (by omega), j_up_cell _ (by omega)]; exact st.2.1.1 c (by omega) (by omega) (by omega)
  have eL : ∀ c, c = 31 ∨ c = 32 → (j_up L5' 26 nl (lgN (nR w))) c = L' c := fun c h => by rw [j_up_cell _ (by omega)]; exact st.2.1.2.2.2.2.1 c (by omega) (by omega)
  refine ⟨(sFr.of hg st.1 st.2.1).trans (sFr.tell hg f), pOk.tell hg ok5 f n1, ?_, ?_, ?_, by omega, ?_, s6, ?_, ?_, ?_, ?_, ?_⟩
  · rw [j_up_own, if_pos rfl]
  · rw [j_up_own, if_neg (by decide), j_up_cell _ (by decide), j_up_cell _ (by decide), j_up_cell _ (by decide), j_up_cell _ (by decide)]; exact (st.1.2.1 12 (by decide)).trans s2
  · rw [j_up_own, if_neg (by decide), j_up_cell _ (by decide), j_up_cell _ (by decide), j_up_cell _ (by decide), j_up_cell _ (by decide)]; exact (st.1.2.1 13 (by decide)).trans s3
  · rw [j_up_own, if_neg (by decide), j_up_cell _ (by decide)]; exact (st.2.1.2.2.2.1 45 (by decide) (by decide) (by decide) (by decide) (by decide)).trans s5
  · intro i hi
    rcases Nat.lt_or_eq_of_le (show i ≤ nl by omega) with z | z
    · exact prL.mv s7 (Nat.le_refl _) st.2.2.2.2.1 st.2.2.2.2.2.1 (fun i hi => by rw [j_up_cell _ (by decide), j_up_cell _ (by decide), j_up_cell _ (by decide), j_up_cell _ (by decide), j_up_own, if_neg (by omega)]; exact congrFun (st.1.1 (49 + 6) (by decide) (by omega)) i) (fun i hi => by rw [j_up_cell _ (by decide), j_up_own, if_neg (by omega)]; exact congrFun (st.2.1.1 27 (by decide) (by decide) (by decide)) i) g1 g2 g3 (fun i hi => if_pos hi) i z
    · subst z
      refine ⟨n, k, nt, Nat.le_refl _, ?_, ?_, ?_⟩
      · rw [j_up_cell _ (by decide), j_up_cell _ (by decide), j_up_cell _ (by decide), j_up_cell _ (by decide), j_up_own, if_pos rfl]
      · rw [j_up_cell _ (by decide), j_up_own, if_pos rfl]
      · dsimp only
        rw [if_pos (Nat.le_refl _), if_neg (by omega)]
        exact p5.eqs (Nat.le_refl _) (Nat.le_refl _) (fun c hc => f.1 (49 + 1 + c) (by omega) (by omega) (by omega) (by omega)) (fun c hc => f.2.2.2.2.1 (21 + c) (by omega) (by omega) (by omega) (by omega) (by omega)) (j_up_cell _ (by decide) _ _)
  · exact prU.mv s8 (by omega) (Nat.le_refl _) st.2.2.2.2.1 st.2.2.2.2.2.1 (fun i hi => by rw [eI (49 + 7) (by decide)]) (fun i hi => by rw [eJ 34 (by decide)]) g1 g2 g3 (fun i hi => if_pos hi)
  · exact prT.mv s9 (Nat.le_refl _) (fun i hi => by rw [eJ 29 (by decide)]) (fun i hi => by rw [eJ 30 (by decide)]) (fun i hi => by rw [eI (49 + 10) (by decide)]) (fun i hi => by rw [eI (49 + 8) (by decide)]) (fun i hi => by rw [eI (49 + 9) (by decide)]) (fun i hi => by rw [eL 31 (by decide)]) (fun i hi => by rw [eL 32 (by decide)])
  · intro i j hij
    show (if i ≤ nl then wl i else wt) ≤ (if j ≤ nl then wl j else wt)
    by_cases q1 : i ≤ nl
    · rw [if_pos q1]
      by_cases q2 : j ≤ nl
      · rw [if_pos q2]; exact s10 i j hij
      · rw [if_neg q2]; exact Nat.le_trans (s10 i nl q1) hwt.1
    · rw [if_neg q1, if_neg (by omega)]; exact Nat.le_refl _
  · show (if nl + 1 ≤ nl then wl (nl + 1) else wt) ≤ now5
    rw [if_neg (by omega)]; exact hwt.2
theorem let_sim49 {d e : Nat} (hd : 140 ≤ d) (he : 140 ≤ e) {wl : Nat → Nat} {np : Nat} {I J : Nat → Nat → Int32} {L L' : Nat → Nat → Int64} {now nc nr : Nat} (hS : pS 49 T K P W U Q nm kd nb nl nt nu wl np now nc nr I L J L') (hK : K now = 97) : jW2 (jv d 13 0 [some (.ref 27), none, none, none] [] (shC, I, L, pX pa pb (some 49) pw)) (jv e 262 43 [some (.ref 0), none, none, none, none, none] [.int 1] (shR, J, L', pR)) (sQ 49 T K P W U now I L J L' (pX pa pb (some 49) pw)) := by
  have hg : 49 = 38 ∨ 49 = 49 := by decide
  obtain ⟨ok, s1, s2, s3, s4, s5, s6, s7, s8, s9, s10, s11⟩ := id hS
  obtain ⟨tk, kw, hN, hC, a5, a6, a7, a8, a9, a10, a11, a12, a13⟩ := id ok
  have hT := tk.1
  have tq := tk.2.2.2.1 now a5
  obtain ⟨d, rfl⟩ : ∃ d', d = d' + 5 := ⟨d - 5, by omega⟩
  obtain ⟨e, rfl⟩ : ∃ e', e = e' + 5 := ⟨e - 5, by omega⟩
  -- behind a fault the first reader goes on
  have ff : ∀ (I3 : Nat → Nat → Int32) (L3 : Nat → Nat → Int64) (x : Int64), I3 27 0 ≠ 0 → jv (d + 5) 13 13 [some (.ref 27), none, none, none] [.long x] (shC, I3, L3, pX pa pb (some 49) pw) = some (none, (shC, I3, L3, pX pa pb (some 49) pw)) := by
    intro I3 L3 x h0
    rw [B13_13_g49, jgo_some (d := d + 4) rfl (sum_cf49 (d := d + 1) h0 _ _ _ _ _ _)]
    dsimp only [Option.toList_some, Option.toList_none, List.cons_append, List.nil_append]
    rw [B13_19_g49, jgo_some (d := d + 4) rfl (expect_cf (d := d + 3) h0 _)]
    dsimp only [Option.toList_some, Option.toList_none, List.cons_append, List.nil_append]
    rw [B13_26_g49, if_pos rfl, B13_71_g49]
  rw [B13_0_g49, s1, B262_43, a11, if_pos (j_in_nI (by omega) (by decide)), nI_clamp (by omega), tq.2.2.2.1, if_neg (by decide), if_pos rfl, hN.2.2.2.2.2.1]
  by_cases hl : nl = 40
  · rw [if_pos (by rw [hl]; rfl), B262_108, show (5 : Int32) = nI 5 from rfl, jgo_some (d := e + 4) rfl (fails_rk a9 5 (P now))]
    have c12 : jv (d + 4) 12 0 [some (.ref 27), some (.int (nI nl)), some (.int 40), none, none] [] (shC, I, L, pX pa pb (some 49) pw) = some (some (.long 0), (shC, flC I 5 (P now), L, pX pa pb (some 49) pw)) := by
      rw [B12_0, if_neg (by rw [hl]; decide), a10, show (5 : Int32) = nI 5 from rfl, jgo_some (d := d + 3) rfl (fail_c tk a5 a8 5)]
      dsimp only [Option.toList_some, Option.toList_none, List.cons_append, List.nil_append]
      rw [B12_14]
    have hf := eSt.fl hg ok.st (f := 5) (p := P now) (by decide) (by omega)
    rw [jgo_some (d := d + 4) rfl c12]
    dsimp only [Option.toList_some, Option.toList_none, List.cons_append, List.nil_append]
    rw [ff _ _ _ hf.f.1, B262_114]
    exact jW2_some (sQ.bad (sFr.of hg hf.1 hf.2.1) hf.b)
  have hl2 : nl < 40 := by have := hN.2.2.1; omega
  rw [if_neg (show ¬ nI nl = (40 : Int32) from fun z => hl ((nI_eq (b := 40) (by omega) (by decide)).mp z)), B262_80, if_neg (by decide), B262_94, if_neg (by decide)]
  rcases head_sim (d := d + 1) (e := e + 3) (pa := pa) (pb := pb) (pu := some 49) (pw := pw) hg ok hK hl2 (by decide) 1 (nI (P now)) with ⟨w, I3, J3, hw, hnew, ec, er, st3, h293⟩ | ⟨x, I3, J3, m1, c1, m2, r2, ec, er, hf⟩
  case inr =>
    rw [show (40 : Int32) = nI 40 from rfl, jgo_some (d := d + 4) rfl ec, er]
    dsimp only [Option.toList_some, Option.toList_none, List.cons_append, List.nil_append]
    rw [ff _ _ _ hf.f.1]
    exact jW2_some (sQ.bad (sFr.of hg hf.1 hf.2.1) hf.b)
  rw [show (40 : Int32) = nI 40 from rfl, jgo_some (d := d + 4) rfl ec, er]
  dsimp only [Option.toList_some, Option.toList_none, List.cons_append, List.nil_append]
  rw [B13_13_g49, B262_137, if_pos h293, if_pos rfl]
  have ok3 := eSt.ok hg ok st3 h293
  refine jW2_go rfl rfl ((top_sim49 (lam := wl nl) (by omega) (by omega)).1 _ _ _ _ _ _ _ ok3) ?_
  intro v S w' S' hq
  obtain ⟨I4, L4, J4, L4', x, y, rfl, rfl, rfl, rfl, vc, vr, I5, J5, ec5, er5, hw5⟩ := eQ.w (d := d + 3) (e := e + 3) hg ok st3 hq (k := 59) (by decide) (by decide) (by decide)
  dsimp only [Option.toList_some, Option.toList_none, List.cons_append, List.nil_append]
  rw [B13_19_g49, B262_156, show (59 : Int32) = nI 59 from rfl, jgo_some (d := d + 4) rfl ec5, show nI 59 = nI (kR 59) from rfl, jgo_some (d := e + 4) rfl er5]
  dsimp only [Option.toList_some, Option.toList_none, List.cons_append, List.nil_append]
  rw [B13_26_g49, B262_164]
  rcases hw5 with ⟨now5, nc5, nr5, n, k, rfl, rfl, lt5, gc5, gr5, hc5, hr5, st5, fc5, fr5, h295, p5, v5⟩ | ⟨m1, c1, m2, r2, v0, hf⟩
  · have j39 : J5 0 39 = nI nl := (st5.2.1.2.2.2.1 39 (by decide) (by decide) (by decide) (by decide) (by decide)).trans hN.2.2.2.2.2.1
    have i11 : I5 49 11 = nI nl := (st5.1.2.1 11 (by decide)).trans s1
    have hN5 := (eSt.ok hg ok st5 h295).2.2.1
    have hQ : Q < 72 := by have := hN.2.2.1; have := hN.2.2.2.1; have := hN.2.2.2.2.1; omega
    rw [v5, if_neg (by decide), i11, if_pos (j_in_nI hl2 (by decide)), nI_clamp (by omega), j_up_cell _ (show 49 ≠ 55 by decide), i11, j39, if_pos (j_in_nI (by omega) (by decide)), if_pos (j_in_nI (by omega) (by decide)), nI_clamp (by omega), j_up_cell _ (show 0 ≠ 27 by decide), if_pos h295, j39, B262_203, B262_335, show nI nl + 1 = nI (nl + 1) from nI_add nl 1, jgo_some (d := d + 4) rfl (tell_c (d := d + 4) (q := Q) (by rw [j_up_cell _ (by decide)]; exact hN5.2.1) hQ _ _ _)]
    dsimp only [Option.toList_some, Option.toList_none, List.cons_append, List.nil_append]
    rw [B13_58_g49, B13_71_g49, j_up_cell _ (show 49 ≠ 27 by decide), j_up_cell _ (show 49 ≠ 33 by decide), j_up_cell _ (show 49 ≠ 32 by decide), j_up_cell _ (show 49 ≠ 55 by decide), i11, show nI nl + 1 = nI (nl + 1) from nI_add nl 1]
    have r := pS.let49 hS hl2 st5 h295 hw hnew (wt := wl nl + (now5 - (now + 1 + 1 + 1) - 1)) ⟨by omega, by omega⟩ (p5.wide (Nat.zero_le _) (Nat.le_refl _) (Nat.zero_le _) (Nat.le_refl _))
    exact jW2_some (sQ.ok r.1 (by omega) r.2)
  · have j39 : J5 0 39 = nI nl := (hf.2.1.2.2.2.1 39 (by decide) (by decide) (by decide) (by decide) (by decide)).trans hN.2.2.2.2.2.1
    rw [v0, if_pos rfl, B13_71_g49, j39, if_pos (j_in_nI (by omega) (by decide)), if_pos (j_in_nI (by omega) (by decide)), nI_clamp (by omega), j_up_cell _ (show 0 ≠ 27 by decide), if_neg hf.f.2, B262_203, B262_335]
    refine jW2_some (sQ.bad ((sFr.of hg hf.1 hf.2.1).trans ⟨fun _ _ _ => rfl, rfl, rfl, fun _ _ _ _ _ _ => rfl, fun _ _ => rfl, fun _ _ _ => rfl, fun c h1 h2 => by rw [j_up_cell _ h1, j_up_cell _ (by omega)], fun q h => by rw [j_up_own, if_neg (by omega), j_up_cell _ (by decide)], fun c h => by rw [j_up_cell _ (by omega)]⟩) ?_)
    obtain ⟨f, p, f1, f2, f3, f4, f5, f6⟩ := hf.b
    exact ⟨f, p, f1, f2, f3, f4, by rw [j_up_own, if_neg (by decide), j_up_cell _ (by decide)]; exact f5, by rw [j_up_own, if_neg (by decide), j_up_cell _ (by decide)]; exact f6⟩
end PART
