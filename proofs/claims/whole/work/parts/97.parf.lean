/-! RULES: a fault in both; a token that must stand here -/
section PARF
variable {d e : Nat} {I J : Nat → Nat → Int32} {L L' : Nat → Nat → Int64} {pa pb pu pw : Option Nat}
variable {g T : Nat} {K P : Nat → Nat} {W : Nat → List Nat} {U : Nat → Nat} {Q : Nat} {nm : Nat → List Nat} {kd nb : Nat → Nat} {nl nt nu s : Nat} {cw : Nat → List Nat} {rho : Nat → Nat} {now nc nr now' nc' nr' : Nat} {I1 J1 : Nat → Nat → Int32} {L1 L1' : Nat → Nat → Int64}
theorem eSt.c (hg : g = 38 ∨ g = 49) (h : eSt g T s now nc nr I L J L' now' nc' nr' I1 L1 J1 L1') (f p : Nat) (hf : 1 ≤ f ∧ f ≤ 6) (hr : nc' ≤ 1201) : eFC g s nc I (flC I1 f p) L L1 ∧ flC I1 f p 27 0 = nI f ∧ flC I1 f p 27 1 = nI p ∧ flC I1 f p 27 7 = nI now' ∧ flC I1 f p g 10 = nI nc' := by
  obtain ⟨b1, b2, b3, b4, b5, b6, b7, b8, b9, b10, b11, b12, b13, b14, b15⟩ := h
  unfold flC
  refine ⟨⟨fun c h1 h2 => ?_, fun q h1 => ?_, fun c h1 i h2 => ?_, fun q h1 h2 h3 h4 => ?_, b1.2.2.2.2.1, b1.2.2.2.2.2⟩, ?_, ?_, ?_, ?_⟩
  · rw [j_up_cell _ h1, j_up_cell _ h1]; exact b1.1 c h1 h2
  · rw [j_up_cell _ (by omega), j_up_cell _ (by omega)]; exact b1.2.1 q h1
  · rw [j_up_cell _ (by omega), j_up_cell _ (by omega)]; exact b1.2.2.1 c h1 i h2
  · rw [j_up_own, if_neg h2, j_up_own, if_neg h1]; exact b1.2.2.2.1 q h1 h2 h3 h4
  · rw [j_up_own, if_neg (by decide), j_up_own, if_pos rfl]
  · rw [j_up_own, if_pos rfl]
  · rw [j_up_own, if_neg (by decide), j_up_own, if_neg (by decide)]; exact b10
  · rw [j_up_cell _ (by omega), j_up_cell _ (by omega)]; exact b12
theorem flR_fr (h : eFR s nr J J1 L' L1') (f p : Nat) : eFR s nr J (flR J1 f p) L' L1' := by
  unfold flR
  refine ⟨fun c h1 h2 h3 => ?_, fun c h1 i h2 => ?_, fun i h1 => ?_, fun q h1 h2 h3 h4 h5 => ?_, h.2.2.2.2.1, h.2.2.2.2.2.1, h.2.2.2.2.2.2⟩
  · rw [j_up_cell _ h1, j_up_cell _ h1]; exact h.1 c h1 h2 h3
  · rw [j_up_cell _ (by omega), j_up_cell _ (by omega)]; exact h.2.1 c h1 i h2
  · rw [j_up_cell _ (by decide), j_up_cell _ (by decide)]; exact h.2.2.1 i h1
  · rw [j_up_own, if_neg h3, j_up_own, if_neg h2]; exact h.2.2.2.1 q h1 h2 h3 h4 h5
/-- both find the fault f at the byte p -/
theorem eSt.fl (hg : g = 38 ∨ g = 49) (h : eSt g T s now nc nr I L J L' now' nc' nr' I1 L1 J1 L1') {f p : Nat} (hf : 1 ≤ f ∧ f ≤ 6) (hr : nc' ≤ 1201) : eF g T s now nc nr I L J L' now' nc' now' nr' (flC I1 f p) L1 (flR J1 f p) L1' := by
  obtain ⟨a1, a2, a3, a4, a5⟩ := eSt.c hg h f p hf hr
  obtain ⟨b1, b2, b3, b4, b5, b6, b7, b8, b9, b10, b11, b12, b13, b14, b15⟩ := h
  refine ⟨a1, flR_fr b2 f p, ⟨f, p, hf.1, hf.2, a2, a3, ?_, ?_⟩, b4, a4, b5, hr, a5, b3, b4, ?_, b6, b8, ?_⟩
  · unfold flR; rw [j_up_own, if_neg (by decide), j_up_own, if_pos rfl]
  · unfold flR; rw [j_up_own, if_pos rfl]
  · unfold flR; rw [j_up_own, if_neg (by decide), j_up_own, if_neg (by decide)]; exact b14
  · unfold flR; rw [j_up_own, if_neg (by decide), j_up_own, if_neg (by decide)]; exact b15
/-- the first finds it later, at the same byte -/
theorem eSt.fl2 (hg : g = 38 ∨ g = 49) (h : eSt g T s now nc nr I L J L' now' nc' nr' I1 L1 J1 L1') (h29 : J1 0 29 = 2) (h30 : J1 0 30 = nI (P now')) (hr : nc' ≤ 1201) : eF g T s now nc nr I L J L' now' nc' now' nr' (flC I1 2 (P now')) L1 J1 L1' := by
  obtain ⟨a1, a2, a3, a4, a5⟩ := eSt.c hg h 2 (P now') (by decide) hr
  obtain ⟨b1, b2, b3, b4, b5, b6, b7, b8, b9, b10, b11, b12, b13, b14, b15⟩ := h
  exact ⟨a1, b2, ⟨2, P now', by decide, by decide, a2, a3, h29, h30⟩, b4, a4, b5, hr, a5, b3, b4, b14, b6, b8, b15⟩
theorem eSt.tk (hg : g = 38 ∨ g = 49) (h : eSt g T s now nc nr I L J L' now' nc' nr' I1 L1 J1 L1') (ht : tkS T K P W U I L J L') : tkS T K P W U I1 L1 J1 L1' := by
  obtain ⟨b1, b2, _⟩ := h
  have eI : ∀ c, c ≠ 27 → c < 38 → I1 c = I c := fun c h1 h2 => b1.1 c h1 (Or.inl (by omega))
  exact ht.frame (b1.2.2.2.1 6 (by decide) (by decide) (by decide) (by decide)) (eI 28 (by decide) (by decide)) (eI 29 (by decide) (by decide)) (b1.2.2.2.2.1 30 (by decide)) (b2.1 18 (by decide) (by decide) (by decide)) (b2.1 19 (by decide) (by decide) (by decide)) (b2.2.2.2.2.1 20 (by decide) (by decide))
theorem eSt.kw (h : eSt g T s now nc nr I L J L' now' nc' nr' I1 L1 J1 L1') (ht : kwS L) : kwS L1 := by
  obtain ⟨b1, b2, _⟩ := h
  unfold kwS at ht ⊢
  rw [b1.2.2.2.2.1 35 (by decide), b1.2.2.2.2.1 36 (by decide), b1.2.2.2.2.1 37 (by decide)]
  exact ht
/-- where both stand: right, the second ahead with its fault at a bracket, or both at a fault -/
def eP (g T : Nat) (K P : Nat → Nat) (s now nc nr : Nat) (I : Nat → Nat → Int32) (L : Nat → Nat → Int64) (J : Nat → Nat → Int32) (L' : Nat → Nat → Int64) (I1 : Nat → Nat → Int32) (L1 : Nat → Nat → Int64) (J1 : Nat → Nat → Int32) (L1' : Nat → Nat → Int64) : Prop :=
  (∃ now' nc' nr', eSt g T s now nc nr I L J L' now' nc' nr' I1 L1 J1 L1' ∧ nc' ≤ 1201 ∧ K now' = 40 ∧ J1 0 29 = 2 ∧ J1 0 30 = nI (P now')) ∨ ∃ now1 nc1 now2 nr2, eF g T s now nc nr I L J L' now1 nc1 now2 nr2 I1 L1 J1 L1'
/-- the token k must stand here: from where both are right -/
theorem want_ok (hg : g = 38 ∨ g = 49) (ht : tkS T K P W U I L J L') (h : eSt g T s now nc nr I L J L' now' nc' nr' I1 L1 J1 L1') (h29 : J1 0 29 = 0) (hr : nc' ≤ 1201) {k : Nat} (hk : k ∈ kdL) (hk0 : k ≠ 0) (d e : Nat) (pa pb pu pw : Option Nat) :
    (K now' = k ∧ jv (d + 1) 11 0 [some (.ref 27), some (.int (nI k))] [] (shC, I1, L1, pX pa pb pu pw) = some (some (.int 1), (shC, j_up I1 27 7 (nI (now' + 1)), L1, pX pa pb pu pw)) ∧ jv (e + 1) 260 0 [some (.ref 0), some (.int (nI (kR k)))] [] (shR, J1, L1', pR) = some (some (.int 1), (shR, j_up J1 0 28 (nI (now' + 1)), L1', pR)) ∧ now' < T ∧ eSt g T s now nc nr I L J L' (now' + 1) nc' nr' (j_up I1 27 7 (nI (now' + 1))) L1 (j_up J1 0 28 (nI (now' + 1))) L1' ∧ j_up J1 0 28 (nI (now' + 1)) 0 29 = 0) ∨
    (K now' ≠ k ∧ ∃ I2 J2 now1 nc1 now2 nr2, jv (d + 1) 11 0 [some (.ref 27), some (.int (nI k))] [] (shC, I1, L1, pX pa pb pu pw) = some (some (.int 0), (shC, I2, L1, pX pa pb pu pw)) ∧ jv (e + 1) 260 0 [some (.ref 0), some (.int (nI (kR k)))] [] (shR, J1, L1', pR) = some (some (.int 0), (shR, J2, L1', pR)) ∧ eF g T s now nc nr I L J L' now1 nc1 now2 nr2 I2 L1 J2 L1') := by
  have ht1 := eSt.tk hg h ht
  have hlt := kR_lt k hk
  by_cases q : K now' = k
  · have lt : now' < T := ht.lt h.2.2.2.1 q hk0
    refine Or.inl ⟨q, expect_c1 ht1 h.2.2.2.1 h.2.2.2.2.2.2.2.2.1 h.2.2.2.2.2.2.2.2.2.1 hlt.1 q, want_r1 ht1 h.2.2.2.1 h29 h.2.2.2.2.2.2.2.2.2.2.2.2.2.1 hk q, lt, eSt.adv hg h lt, ?_⟩
    rw [j_up_own, if_neg (by decide), h29]
  · exact Or.inr ⟨q, _, _, _, _, _, _, expect_c0 ht1 h.2.2.2.1 h.2.2.2.2.2.2.2.2.1 h.2.2.2.2.2.2.2.2.2.1 hlt.1 q, want_r0 ht1 h.2.2.2.1 h29 h.2.2.2.2.2.2.2.2.2.2.2.2.2.1 hk q, eSt.fl hg h (by decide) hr⟩
theorem want_bad (hg : g = 38 ∨ g = 49) (ht : tkS T K P W U I L J L') (h : eP g T K P s now nc nr I L J L' I1 L1 J1 L1') {k : Nat} (hk : k ∈ kdL) (h40 : k ≠ 40) (d e : Nat) (pa pb pu pw : Option Nat) :
    ∃ I2 now1 nc1 now2 nr2, jv (d + 1) 11 0 [some (.ref 27), some (.int (nI k))] [] (shC, I1, L1, pX pa pb pu pw) = some (some (.int 0), (shC, I2, L1, pX pa pb pu pw)) ∧ jv (e + 1) 260 0 [some (.ref 0), some (.int (nI (kR k)))] [] (shR, J1, L1', pR) = some (some (.int 0), (shR, J1, L1', pR)) ∧ eF g T s now nc nr I L J L' now1 nc1 now2 nr2 I2 L1 J1 L1' := by
  have hlt := kR_lt k hk
  rcases h with ⟨now', nc', nr', h, hr, h40', h29, h30⟩ | ⟨now1, nc1, now2, nr2, h⟩
  · have ht1 := eSt.tk hg h ht
    exact ⟨_, _, _, _, _, expect_c0 ht1 h.2.2.2.1 h.2.2.2.2.2.2.2.2.1 h.2.2.2.2.2.2.2.2.2.1 hlt.1 (by rw [h40']; exact Ne.symm h40), want_rf (by rw [h29]; decide) _, eSt.fl2 hg h h29 h30 hr⟩
  · exact ⟨I1, now1, nc1, now2, nr2, expect_cf h.f.1 _, want_rf h.f.2 _, h⟩
theorem want_f (h1 : I1 27 0 ≠ 0) (h2 : J1 0 29 ≠ 0) (k k' : Int32) (d e : Nat) (pa pb pu pw : Option Nat) : jv (d + 1) 11 0 [some (.ref 27), some (.int k)] [] (shC, I1, L1, pX pa pb pu pw) = some (some (.int 0), (shC, I1, L1, pX pa pb pu pw)) ∧ jv e 260 0 [some (.ref 0), some (.int k')] [] (shR, J1, L1', pR) = some (some (.int 0), (shR, J1, L1', pR)) := ⟨expect_cf h1 _, want_rf h2 _⟩
/-- both at a fault: any answers -/
theorem eQ.f {lam h : Nat} {b : Bool} {px : Nat → Nat → Option Nat} {now1 nc1 now2 nr2 : Nat} (hf : eF g T s now nc nr I L J L' now1 nc1 now2 nr2 I1 L1 J1 L1') (x y : Int32) : eQ g T K P nl nt lam s rho h b now nc nr I L J L' px (some (.int x)) (shC, I1, L1, px) (some (.int y)) (shR, J1, L1', pR) := ⟨I1, L1, J1, L1', x, y, rfl, rfl, rfl, rfl, Or.inr ⟨now1, nc1, now2, nr2, hf⟩⟩
theorem eQ.ok {lam h : Nat} {b : Bool} {px : Nat → Nat → Option Nat} {n k : Nat} (hn : now < now') (hs : eSt g T s now nc nr I L J L' now' nc' nr' I1 L1 J1 L1') (h29 : J1 0 29 = 0) (hp : pst g I1 J1 L1' nl nt lam h b (lam + (now' - now)) s rho nc nc' nr nr' n k) : eQ g T K P nl nt lam s rho h b now nc nr I L J L' px (some (.int (nI n))) (shC, I1, L1, px) (some (.int (nI k))) (shR, J1, L1', pR) := ⟨I1, L1, J1, L1', _, _, rfl, rfl, rfl, rfl, Or.inl ⟨now', nc', nr', n, k, hn, hs, rfl, rfl, Or.inl ⟨h29, hp⟩⟩⟩
theorem eQ.pd {lam h : Nat} {b : Bool} {px : Nat → Nat → Option Nat} {n k : Nat} (hn : now < now') (hs : eSt g T s now nc nr I L J L' now' nc' nr' I1 L1 J1 L1') (h40 : K now' = 40) (h29 : J1 0 29 = 2) (h30 : J1 0 30 = nI (P now')) : eQ g T K P nl nt lam s rho h b now nc nr I L J L' px (some (.int (nI n))) (shC, I1, L1, px) (some (.int (nI k))) (shR, J1, L1', pR) := ⟨I1, L1, J1, L1', _, _, rfl, rfl, rfl, rfl, Or.inl ⟨now', nc', nr', n, k, hn, hs, rfl, rfl, Or.inr ⟨h40, h29, h30⟩⟩⟩
end PARF
