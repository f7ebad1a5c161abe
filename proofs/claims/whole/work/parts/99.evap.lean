/-! RULES: every number and every condition in the second one -/
section EVAP
variable {wJ : (Nat → Nat → Int32) → (Nat → Nat → Int64) → Prop} {J0 : Nat → Nat → Int32} {L0 : Nat → Nat → Int64} {ln : Nat → Nat} {tq : Nat → Int × Int → Int × Int} {wd : Nat → Int × Int} {wo : Nat → Int × Int → Int × Int}
variable {C : Nat → Nat → Int32} {nl nt : Nat} {wl : Nat → Nat}
theorem valP.of {w s k : Nat} {rho : Nat → Nat} {E : Nat → (Nat → Int) → Nat × Int × Int} (hW : wStR wJ) (key : ∀ f c t e J L, w ≤ f → 70 + w ≤ e → t ≤ 10000 → rSt wJ J0 L0 s rho c t J L → ∃ J' L' t' q, jv e 285 0 [some (.ref 0), some (.int (nI k)), none, none, none, none, none] [] (shR, J, L, pR) = some (none, (shR, J', L', pR)) ∧ rSt wJ J0 L0 s rho c t' J' L' ∧ L' 0 54 = lI q.1 ∧ L' 0 55 = lI q.2 ∧ rSp t (E f c).1 (E f c).2 q t') : valP wJ J0 L0 E w s rho k := by
  intro f c t e J L hf he hst
  by_cases ov : 10000 < t
  · obtain ⟨e, rfl⟩ : ∃ e', e = e' + 1 := ⟨e - 1, by omega⟩
    exact ⟨J, fqR L (0, 0), t, (0, 0), val_over hW hst ov, hst.fr hW _, by rw [fqR_54], by rw [fqR_55], ⟨fN0, fun z => by omega, fun _ => ov⟩, fun _ => ov⟩
  · obtain ⟨J', L', t', q, a1, a2, a3, a4, a5⟩ := key f c t e J L hf he (by omega) hst
    exact ⟨J', L', t', q, a1, a2, a3, a4, a5, fun z => absurd z ov⟩
theorem sayP.of {w s k : Nat} {rho : Nat → Nat} {E : Nat → (Nat → Int) → Nat × Int × Int} (key : ∀ f c t e J L, w ≤ f → 70 + w ≤ e → t ≤ 10000 → rSt wJ J0 L0 s rho c t J L → ∃ J' L' t' v, jv e 290 0 [some (.ref 0), some (.int (nI k)), none, none, none, none, none, none] [] (shR, J, L, pR) = some (some (.int (vI v)), (shR, J', L', pR)) ∧ rSt wJ J0 L0 s rho c t' J' L' ∧ rSv t (E f c).1 (E f c).2.1 v t') : sayP wJ J0 L0 E w s rho k := by
  intro f c t e J L hf he hst
  by_cases ov : 10000 < t
  · exact ⟨J, L, t, 2, say_over hst ov, hst, ⟨Or.inr (Or.inr rfl), fun z => by omega, fun _ => ov⟩, fun _ => ov⟩
  · obtain ⟨J', L', t', v, a1, a2, a5⟩ := key f c t e J L hf he (by omega) hst
    exact ⟨J', L', t', v, a1, a2, a5, fun z => absurd z ov⟩
/-- a choice -/
theorem choice_r {s t k k1 k2 k3 w' : Nat} {rho : Nat → Nat} {c : Nat → Int} {J : Nat → Nat → Int32} {L : Nat → Nat → Int64} (hW : wStR wJ) {E1 E2 E3 : Nat → (Nat → Int) → Nat × Int × Int} (hs1 : sayP wJ J0 L0 E1 w' s rho k1) (hs2 : valP wJ J0 L0 E2 w' s rho k2) (hs3 : valP wJ J0 L0 E3 w' s rho k3) (o : J0 21 k = 7) (e1 : J0 22 k = nI k1) (e2 : J0 23 k = nI k2) (e3 : J0 24 k = nI k3) (a2 : k < 1400) {f e : Nat} (hf : w' ≤ f) (ht : t ≤ 10000) (he : 70 + w' ≤ e) (hst : rSt wJ J0 L0 s rho c t J L) : ∃ J' L' t' q, jv (e + 1) 285 0 [some (.ref 0), some (.int (nI k)), none, none, none, none, none] [] (shR, J, L, pR) = some (none, (shR, J', L', pR)) ∧ rSt wJ J0 L0 s rho c t' J' L' ∧ L' 0 54 = lI q.1 ∧ L' 0 55 = lI q.2 ∧ rSp t (if (E1 f c).2.1 = 2 then ((E1 f c).1 + 1, 0, 0) else if (E1 f c).2.1 = 1 then ((E1 f c).1 + (E2 f c).1 + 1, (E2 f c).2) else ((E1 f c).1 + (E3 f c).1 + 1, (E3 f c).2) : Nat × Int × Int).1 (if (E1 f c).2.1 = 2 then ((E1 f c).1 + 1, 0, 0) else if (E1 f c).2.1 = 1 then ((E1 f c).1 + (E2 f c).1 + 1, (E2 f c).2) else ((E1 f c).1 + (E3 f c).1 + 1, (E3 f c).2) : Nat × Int × Int).2 q t' := by
  have st0 := hst.fr hW (0, 0)
  obtain ⟨Ja, b1, b2⟩ := stp_r (e := e) hW st0 ht
  obtain ⟨J1, L1, t1, v, r1, r2, r5, r6⟩ := hs1 f c (t + 1) e Ja _ hf (by omega) b2
  have st1 := r2.fr hW (0, 0)
  have run : jv (e + 1) 285 0 [some (.ref 0), some (.int (nI k)), none, none, none, none, none] [] (shR, J, L, pR) = jv (e + 1) 285 241 [some (.ref 0), some (.int (nI k)), some (.int (vI v)), none, none, none, none] [] (shR, J1, fqR L1 (0, 0), pR) := by
    rw [B285_0, jgo_some (d := e) rfl und_r]
    dsimp only [Option.toList_some, Option.toList_none, List.cons_append, List.nil_append]
    rw [B285_4, if_pos (hst.on ht), if_pos (j_in_nI a2 (by decide)), nI_clamp (by omega), hst.cell (k := 21) (by decide) (by decide), o, if_neg (by decide), if_neg (by decide), if_neg (by decide), if_neg (by decide), if_neg (by decide), if_neg (by decide), if_pos (by decide), jgo_some (d := e) rfl b1]
    dsimp only [Option.toList_some, Option.toList_none, List.cons_append, List.nil_append]
    rw [B285_226, if_pos (j_in_nI a2 (by decide)), nI_clamp (by omega), b2.cell (k := 22) (by decide) (by decide), e1, jgo_some (d := e) rfl r1]
    dsimp only [Option.toList_some, Option.toList_none, List.cons_append, List.nil_append]
    rw [B285_236, jgo_some (d := e) rfl und_r]
    rfl
  have low : (E1 f c).1 + 1 ≤ (if (E1 f c).2.1 = 2 then ((E1 f c).1 + 1, 0, 0) else if (E1 f c).2.1 = 1 then ((E1 f c).1 + (E2 f c).1 + 1, (E2 f c).2) else ((E1 f c).1 + (E3 f c).1 + 1, (E3 f c).2) : Nat × Int × Int).1 := by
    by_cases y1 : (E1 f c).2.1 = 2
    · rw [if_pos y1]; exact Nat.le_refl _
    · rw [if_neg y1]
      by_cases y2 : (E1 f c).2.1 = 1
      · rw [if_pos y2]; show _ ≤ (E1 f c).1 + (E2 f c).1 + 1; omega
      · rw [if_neg y2]; show _ ≤ (E1 f c).1 + (E3 f c).1 + 1; omega
  by_cases y1 : v = 2
  · refine ⟨J1, fqR L1 (0, 0), t1, (0, 0), ?_, st1, by rw [fqR_54], by rw [fqR_55], fN0, fun z => ?_, fun z => ?_⟩
    · rw [run, y1, B285_241, if_pos (by decide), B285_270]
    · have a := r5.2.1 (by omega)
      rw [← a.2, if_pos y1]
      exact ⟨by show t1 = t + ((E1 f c).1 + 1); omega, rfl⟩
    · by_cases y : t + 1 + (E1 f c).1 ≤ 10000
      · have a := r5.2.1 y
        rw [← a.2, if_pos y1] at z
        have z : 10000 < t + ((E1 f c).1 + 1) := z
        omega
      · exact r5.2.2 (by omega)
  by_cases y2 : v = 1
  · obtain ⟨J2, L2, t2, q2, s1, s2, s3, s4, s5, s6⟩ := hs2 f c t1 e J1 _ hf (by omega) st1
    refine ⟨J2, L2, t2, q2, ?_, s2, s3, s4, s5.1, fun z => ?_, fun z => ?_⟩
    · rw [run, y2, B285_241, if_neg (by decide), if_pos (by decide), if_pos (j_in_nI a2 (by decide)), nI_clamp (by omega), r2.cell (k := 23) (by decide) (by decide), e2, B285_267, jgo_some (d := e) rfl s1]
      dsimp only [Option.toList_some, Option.toList_none, List.cons_append, List.nil_append]
      rw [B285_270]
    · have a := r5.2.1 (by omega)
      rw [← a.2, if_neg y1, if_pos y2] at z ⊢
      have z : t + ((E1 f c).1 + (E2 f c).1 + 1) ≤ 10000 := z
      have b := s5.2.1 (by omega)
      exact ⟨by show t2 = t + ((E1 f c).1 + (E2 f c).1 + 1); omega, b.2⟩
    · by_cases y : t + 1 + (E1 f c).1 ≤ 10000
      · have a := r5.2.1 y
        rw [← a.2, if_neg y1, if_pos y2] at z
        have z : 10000 < t + ((E1 f c).1 + (E2 f c).1 + 1) := z
        exact s5.2.2 (by omega)
      · exact s6 (r5.2.2 (by omega))
  · have y0 : v = 0 := by have := r5.1; unfold v3 at this; omega
    obtain ⟨J2, L2, t2, q2, s1, s2, s3, s4, s5, s6⟩ := hs3 f c t1 e J1 _ hf (by omega) st1
    refine ⟨J2, L2, t2, q2, ?_, s2, s3, s4, s5.1, fun z => ?_, fun z => ?_⟩
    · rw [run, y0, B285_241, if_neg (by decide), if_neg (by decide), if_pos (j_in_nI a2 (by decide)), nI_clamp (by omega), r2.cell (k := 24) (by decide) (by decide), e3, B285_267, jgo_some (d := e) rfl s1]
      dsimp only [Option.toList_some, Option.toList_none, List.cons_append, List.nil_append]
      rw [B285_270]
    · have a := r5.2.1 (by omega)
      rw [← a.2, if_neg y1, if_neg y2] at z ⊢
      have z : t + ((E1 f c).1 + (E3 f c).1 + 1) ≤ 10000 := z
      have b := s5.2.1 (by omega)
      exact ⟨by show t2 = t + ((E1 f c).1 + (E3 f c).1 + 1); omega, b.2⟩
    · by_cases y : t + 1 + (E1 f c).1 ≤ 10000
      · have a := r5.2.1 y
        rw [← a.2, if_neg y1, if_neg y2] at z
        have z : 10000 < t + ((E1 f c).1 + (E3 f c).1 + 1) := z
        exact s5.2.2 (by omega)
      · exact s6 (r5.2.2 (by omega))
/-- not -/
theorem not_r {s t k k1 w' : Nat} {rho : Nat → Nat} {c : Nat → Int} {J : Nat → Nat → Int32} {L : Nat → Nat → Int64} (hW : wStR wJ) {E1 : Nat → (Nat → Int) → Nat × Int × Int} (hs1 : sayP wJ J0 L0 E1 w' s rho k1) (o : J0 21 k = 22) (e1 : J0 22 k = nI k1) (a2 : k < 1400) {f e : Nat} (hf : w' ≤ f) (ht : t ≤ 10000) (he : 70 + w' ≤ e) (hst : rSt wJ J0 L0 s rho c t J L) : ∃ J' L' t' v, jv (e + 1) 290 0 [some (.ref 0), some (.int (nI k)), none, none, none, none, none, none] [] (shR, J, L, pR) = some (some (.int (vI v)), (shR, J', L', pR)) ∧ rSt wJ J0 L0 s rho c t' J' L' ∧ rSv t ((E1 f c).1 + 1) (if (E1 f c).2.1 = 2 then 2 else 1 - (E1 f c).2.1) v t' := by
  obtain ⟨Ja, b1, b2⟩ := stp_r (e := e) hW hst ht
  obtain ⟨J1, L1, t1, v, r1, r2, r5, r6⟩ := hs1 f c (t + 1) e Ja _ hf (by omega) b2
  have nv : v3 (if v = 2 then 2 else 1 - v) := by
    have := r5.1
    unfold v3 at this ⊢
    by_cases y : v = 2
    · rw [if_pos y]; omega
    · rw [if_neg y]; omega
  refine ⟨J1, L1, t1, if v = 2 then 2 else 1 - v, ?_, r2, nv, fun z => ?_, fun z => r5.2.2 (by omega)⟩
  · rw [B290_0, if_pos (hst.on ht), if_pos (j_in_nI a2 (by decide)), nI_clamp (by omega), hst.cell (k := 21) (by decide) (by decide), o, if_pos rfl, jgo_some (d := e) rfl b1]
    dsimp only [Option.toList_some, Option.toList_none, List.cons_append, List.nil_append]
    rw [B290_24, if_pos (j_in_nI a2 (by decide)), nI_clamp (by omega), b2.cell (k := 22) (by decide) (by decide), e1, jgo_some (d := e) rfl r1]
    dsimp only [Option.toList_some, Option.toList_none, List.cons_append, List.nil_append]
    rw [B290_34]
    rcases r5.1 with y | y | y <;> subst y
    · rw [if_neg (by decide), B290_47]; rfl
    · rw [if_neg (by decide), B290_47]; rfl
    · rw [if_pos (by decide), B290_47]; rfl
  · have a := r5.2.1 (by omega)
    exact ⟨by omega, by rw [a.2]⟩
def okP (wJ : (Nat → Nat → Int32) → (Nat → Nat → Int64) → Prop) (J0 : Nat → Nat → Int32) (L0 : Nat → Nat → Int64) (E : Bool → Nat → (Nat → Int) → Nat × Int × Int) (b : Bool) (w s : Nat) (rho : Nat → Nat) (k : Nat) : Prop := (b = true → valP wJ J0 L0 (E true) w s rho k) ∧ (b = false → sayP wJ J0 L0 (E false) w s rho k)
theorem eval_r (hE : envR wJ J0 L0 nl nt ln tq wd wo) (hn : nl ≤ 40) (hl : ltR C (fun c i => J0 (21 + c) i) (L0 25) nl wl ln) (hlt : ∀ i, i < nl → ∃ n mt, mt ≤ nt ∧ rel C (fun c i => J0 (21 + c) i) (L0 25) i mt (wl i) 75 true (wl (i + 1)) 0 rho0 n (ln i)) : ∀ w, (∀ (m mt h : Nat) (b : Bool) (s : Nat) (rho : Nat → Nat) (n k : Nat), m ≤ nl → mt ≤ nt → rel C (fun c i => J0 (21 + c) i) (L0 25) m mt (wl m) h b w s rho n k → ∀ S sg, ivC (fun c i => J0 (21 + c) i) m s rho S sg k → okP wJ J0 L0 (fun b f c => ev (fun c i => J0 (21 + c) i) (L0 25) ln tq wd wo f b c k) b w S sg k) ∧ (∀ (m mt h : Nat) (b : Bool) (kd j s : Nat) (rho : Nat → Nat) (n last k : Nat), m ≤ nl → mt ≤ nt → kdC b kd → chL C (fun c i => J0 (21 + c) i) kd (fun w' n' k' => rel C (fun c i => J0 (21 + c) i) (L0 25) m mt (wl m) h b w' s rho n' k') j w n last k → ∀ S sg, ivC (fun c i => J0 (21 + c) i) m s rho S sg k → okP wJ J0 L0 (fun b f c => ev (fun c i => J0 (21 + c) i) (L0 25) ln tq wd wo f b c k) b w S sg k) := by
  obtain ⟨hW, w1, w2, w3, hnt, o0, o1, o2, o3⟩ := id hE
  have hnz := ev_nz (tq := tq) (wd := wd) (wo := wo) hn hl (fun w h => (w1 w h).2) (fun w p h => (w2 w p h).2) (fun i p h => (w3 i p h).2) hnt hlt
  intro w
  induction w using Nat.strongRecOn with
  | _ w ih =>
    have cB : ∀ (m mt h : Nat) (b : Bool) (kd j s : Nat) (rho : Nat → Nat) (n last k : Nat), m ≤ nl → mt ≤ nt → kdC b kd → chL C (fun c i => J0 (21 + c) i) kd (fun w' n' k' => rel C (fun c i => J0 (21 + c) i) (L0 25) m mt (wl m) h b w' s rho n' k') j w n last k → ∀ S sg, ivC (fun c i => J0 (21 + c) i) m s rho S sg k → okP wJ J0 L0 (fun b f c => ev (fun c i => J0 (21 + c) i) (L0 25) ln tq wd wo f b c k) b w S sg k := by
      intro m mt h b kd j s rho n last k hm hmt hk hc S sg hv
      have kb := (chL_n _ _ _ _ _ hc).2
      have six : J0 21 k = 12 ∨ J0 21 k = 13 ∨ J0 21 k = 14 ∨ J0 21 k = 15 ∨ J0 21 k = 20 ∨ J0 21 k = 21 := (chL_T (wl := wl) hk hc).1
      have twl : J0 21 k = 12 ∨ J0 21 k = 13 ∨ J0 21 k = 14 ∨ J0 21 k = 15 ∨ J0 21 k = 20 ∨ J0 21 k = 21 ∨ J0 21 k = 23 ∨ J0 21 k = 24 ∨ J0 21 k = 25 ∨ J0 21 k = 26 ∨ J0 21 k = 27 ∨ J0 21 k = 28 := by rcases six with o | o | o | o | o | o <;> rw [o] <;> decide
      have two : ∃ w' k1 k2, w' < w ∧ opC kd (C 4 last) (J0 21 k) ∧ J0 22 k = nI k1 ∧ k1 < 1400 ∧ J0 23 k = nI k2 ∧ k2 < 1400 ∧ okP wJ J0 L0 (fun b f c => ev (fun c i => J0 (21 + c) i) (L0 25) ln tq wd wo f b c k1) b w' S sg k1 ∧ okP wJ J0 L0 (fun b f c => ev (fun c i => J0 (21 + c) i) (L0 25) ln tq wd wo f b c k2) b w' S sg k2 := by
        have tw : ∀ k1, k1 < 1400 → (J0 22 k = nI k1 ∨ J0 23 k = nI k1) → ivC (fun c i => J0 (21 + c) i) m s rho S sg k1 := fun k1 l1 z => hv.part ⟨l1, Or.inr (Or.inr (Or.inl ⟨z, twl⟩))⟩
        cases j with
        | zero =>
          obtain ⟨a1, a2, a3, a4, a5, w', n1, k1, n2, k2, b1, b2, b3, b4, b5, b6, b7⟩ := hc
          exact ⟨w', k1, k2, b1, by rw [a1]; exact a5, b3, (rel_k b4).2, b6, (rel_k b7).2, (ih w' b1).1 m mt h b s rho n1 k1 hm hmt b4 S sg (tw k1 (rel_k b4).2 (Or.inl b3)), (ih w' b1).1 m mt h b s rho n2 k2 hm hmt b7 S sg (tw k2 (rel_k b7).2 (Or.inr b6))⟩
        | succ j =>
          obtain ⟨a1, a2, a3, a4, w', l', k', n2, k2, b1, b2, b3, b4, b5, b6, b7⟩ := hc
          exact ⟨w', k', k2, b1, a4, b4, (chL_n _ _ _ _ _ b2).2, b6, (rel_k b7).2, (ih w' b1).2 m mt h b kd j s rho n l' k' hm hmt hk b2 S sg (tw k' (chL_n _ _ _ _ _ b2).2 (Or.inl b4)), (ih w' b1).1 m mt h b s rho n2 k2 hm hmt b7 S sg (tw k2 (rel_k b7).2 (Or.inr b6))⟩
      obtain ⟨w', k1, k2, lt, op, e1, l1, e2, l2, s1, s2⟩ := two
      rcases hk with ⟨rfl, rfl⟩ | ⟨rfl, hk⟩
      · refine ⟨fun _ => valP.of hW (fun f c t e J L hf he ht hst => ?_), fun z => absurd z (by decide)⟩
        obtain ⟨f, rfl⟩ : ∃ g, f = g + 1 := ⟨f - 1, by omega⟩
        have goal : ∀ kk, kk < 4 → J0 21 k = opR kk → ev (fun c i => J0 (21 + c) i) (L0 25) ln tq wd wo (f + 1) true c k = ((ev (fun c i => J0 (21 + c) i) (L0 25) ln tq wd wo f true c k1).1 + (ev (fun c i => J0 (21 + c) i) (L0 25) ln tq wd wo f true c k2).1 + 1, fA kk (ev (fun c i => J0 (21 + c) i) (L0 25) ln tq wd wo f true c k1).2.1 (ev (fun c i => J0 (21 + c) i) (L0 25) ln tq wd wo f true c k1).2.2 (ev (fun c i => J0 (21 + c) i) (L0 25) ln tq wd wo f true c k2).2.1 (ev (fun c i => J0 (21 + c) i) (L0 25) ln tq wd wo f true c k2).2.2) := by
          intro kk hkk ho
          rw [ev_t]
          rw [nN e1 l1, nN e2 l2, show J0 (21 + 0) k = opR kk from ho]
          rcases (show kk = 0 ∨ kk = 1 ∨ kk = 2 ∨ kk = 3 by omega) with y | y | y | y <;> subst y <;> rfl
        have fin : ∀ kk, kk < 4 → J0 21 k = opR kk → ∃ J' L' t' q, jv e 285 0 [some (.ref 0), some (.int (nI k)), none, none, none, none, none] [] (shR, J, L, pR) = some (none, (shR, J', L', pR)) ∧ rSt wJ J0 L0 S sg c t' J' L' ∧ L' 0 54 = lI q.1 ∧ L' 0 55 = lI q.2 ∧ rSp t (ev (fun c i => J0 (21 + c) i) (L0 25) ln tq wd wo (f + 1) true c k).1 (ev (fun c i => J0 (21 + c) i) (L0 25) ln tq wd wo (f + 1) true c k).2 q t' := by
          intro kk hkk ho
          rw [goal kk hkk ho]
          exact bin_r hW (s1.1 rfl) (s2.1 rfl) hkk ho e1 e2 kb (f := f) (by omega) ht (by omega) hst
        rcases op with ⟨_, op⟩ | ⟨op, _⟩ | ⟨op, _⟩
        · rcases op with ⟨_, op⟩ | ⟨_, op⟩ | ⟨_, op⟩ | ⟨_, op⟩
          · exact fin 0 (by decide) op
          · exact fin 1 (by decide) op
          · exact fin 2 (by decide) op
          · exact fin 3 (by decide) op
        · exact absurd op (by decide)
        · exact absurd op (by decide)
      · refine ⟨fun z => absurd z (by decide), fun _ => sayP.of (fun f c t e J L hf he ht hst => ?_)⟩
        obtain ⟨f, rfl⟩ : ∃ g, f = g + 1 := ⟨f - 1, by omega⟩
        have fin : ∀ st : Int, ((J0 21 k = 20 ∧ st = 1) ∨ (J0 21 k = 21 ∧ st = 0)) → ∃ J' L' t' v, jv e 290 0 [some (.ref 0), some (.int (nI k)), none, none, none, none, none, none] [] (shR, J, L, pR) = some (some (.int (vI v)), (shR, J', L', pR)) ∧ rSt wJ J0 L0 S sg c t' J' L' ∧ rSv t (ev (fun c i => J0 (21 + c) i) (L0 25) ln tq wd wo (f + 1) false c k).1 (ev (fun c i => J0 (21 + c) i) (L0 25) ln tq wd wo (f + 1) false c k).2.1 v t' := by
          intro st ho
          rw [ev_f]
          rw [nN e1 l1, nN e2 l2]
          obtain ⟨J', L', t', v, z1, z2, z3⟩ := join_r (w' := w') (e := e) (f := f) hW (s1.2 rfl) (s2.2 rfl) ho e1 e2 kb (by omega) ht (by omega) hst
          refine ⟨J', L', t', v, z1, z2, ?_⟩
          rcases ho with ⟨ho, rfl⟩ | ⟨ho, rfl⟩
          · rw [show J0 (21 + 0) k = 20 from ho]; exact z3
          · rw [show J0 (21 + 0) k = 21 from ho]; exact z3
        rcases op with ⟨op, _⟩ | ⟨_, op⟩ | ⟨_, op⟩
        · omega
        · exact fin 1 (Or.inl ⟨op, rfl⟩)
        · exact fin 0 (Or.inr ⟨op, rfl⟩)
    refine ⟨?_, cB⟩
    intro m mt h b s rho n k hm hmt hr S sg hv
    cases h with
    | zero => exact hr.elim
    | succ h =>
      have hkT : inT C (fun c i => J0 (21 + c) i) (L0 25) wl m k := Or.inl ⟨mt, h + 1, b, w, s, rho, n, hr⟩
      obtain ⟨a1, a2, z⟩ := hr
      rcases z with ⟨kd, j, last, c1, c2, c3⟩ | ⟨w', lw, z⟩
      · exact cB m mt h b kd j s rho n last k hm hmt c1 c2 S sg hv
      have sub : ∀ (b' : Bool) (n1 k1 : Nat), rel C (fun c i => J0 (21 + c) i) (L0 25) m mt (wl m) h b' w' s rho n1 k1 → chd (fun c i => J0 (21 + c) i) k k1 → okP wJ J0 L0 (fun b f c => ev (fun c i => J0 (21 + c) i) (L0 25) ln tq wd wo f b c k1) b' w' S sg k1 := fun b' n1 k1 q y => (ih w' lw).1 m mt h b' s rho n1 k1 hm hmt q S sg (hv.part y)
      rcases z with ⟨rfl, z⟩ | ⟨rfl, z⟩
      · refine ⟨fun _ => valP.of hW (fun f c t e J L hf he ht hst => ?_), fun z => absurd z (by decide)⟩
        obtain ⟨f, rfl⟩ : ∃ g, f = g + 1 := ⟨f - 1, by omega⟩
        obtain ⟨e, rfl⟩ : ∃ e', e = e' + 1 := ⟨e - 1, by omega⟩
        have st0 := hst.fr hW (0, 0)
        obtain ⟨Ja, b1, b2⟩ := stp_r (e := e) hW st0 ht
        dsimp only
        rw [ev_t]
        rcases z with ⟨_, o, v, v1, _, v2⟩ | ⟨_, o, i, i1, _, i2, i3⟩ | ⟨_, o, i, i1, _, i2, i3⟩ | ⟨_, o, i, n1, k1, i1, _, e1, _, e2, q⟩ | ⟨_, o, i, i1, _, e1⟩ | ⟨_, o, i, n1, k1, i1, _, e1, _, e2, q⟩ | ⟨_, o, n1, k1, _, e1, q⟩ | ⟨_, o, n1, k1, n2, k2, n3, k3, _, e1, q1, _, e2, q2, _, e3, q3⟩ | ⟨i, n1, k1, n2, k2, n3, k3, w2', i3, _, o, _, i24, lw2, _, e1, q1, _, e2, q2, _, e3, q3, hne⟩
        · -- a number
          have o : J0 21 k = 1 := o
          have hv : fB (v : Int) := ⟨by have : HG = 1000000000000000000 := rfl; omega, by have : HG = 1000000000000000000 := rfl; omega⟩
          have lv : lI (v : Int) = L0 25 k := by rw [v2, ← lI_of (lgN v), lgN_toInt (by omega)]
          refine ⟨Ja, fqR (fqR L (0, 0)) (v, 1), t + 1, (v, 1), ?_, b2.fr hW _, by rw [fqR_54], by rw [fqR_55], ?_⟩
          · rw [B285_0, jgo_some (d := e) rfl und_r]
            dsimp only [Option.toList_some, Option.toList_none, List.cons_append, List.nil_append]
            rw [B285_4, if_pos (hst.on ht), if_pos (j_in_nI a2 (by decide)), nI_clamp (by omega), hst.cell (k := 21) (by decide) (by decide), o, if_pos (by decide), jgo_some (d := e) rfl b1]
            dsimp only [Option.toList_some, Option.toList_none, List.cons_append, List.nil_append]
            rw [B285_80, if_pos (j_in_nI a2 (by decide)), nI_clamp (by omega), b2.2.2.2.1 25 (by decide) (by decide), ← lv]
            rfl
          · rw [if_pos o, v2, lgN_toInt (by omega)]
            exact rSp.leaf (fN1 hv)
        · -- a counter
          have o : J0 21 k = 2 := o
          have i2 : J0 22 k = nI (rho i) := i2
          obtain ⟨j', j1, j2⟩ := hv.1 i i1
          have cu := b2.2.2.2.2.1 j' j1
          rw [j2] at cu
          refine ⟨Ja, fqR (fqR L (0, 0)) (c (rho i), 1), t + 1, (c (rho i), 1), ?_, b2.fr hW _, by rw [fqR_54], by rw [fqR_55], ?_⟩
          · rw [B285_0, jgo_some (d := e) rfl und_r]
            dsimp only [Option.toList_some, Option.toList_none, List.cons_append, List.nil_append]
            rw [B285_4, if_pos (hst.on ht), if_pos (j_in_nI a2 (by decide)), nI_clamp (by omega), hst.cell (k := 21) (by decide) (by decide), o, if_neg (by decide), if_pos (by decide), jgo_some (d := e) rfl b1]
            dsimp only [Option.toList_some, Option.toList_none, List.cons_append, List.nil_append]
            rw [B285_100, if_pos (j_in_nI a2 (by decide)), nI_clamp (n := k) (by omega), b2.cell (k := 22) (by decide) (by decide), i2, if_pos (j_in_nI i3 (by decide)), nI_clamp (n := rho i) (by omega), cu.1]
            rfl
          · rw [if_neg (by rw [o]; decide), if_pos o, show J0 (21 + 1) k = nI (rho i) from i2, nI_clamp (n := rho i) (by omega)]
            exact rSp.leaf (fN1 cu.2)
        · -- a let
          have o : J0 21 k = 3 := o
          have i2 : J0 22 k = nI i := i2
          obtain ⟨n1, mt1, hmt1, q⟩ := hlt i (by omega)
          have wle : wl (i + 1) ≤ w' := by have := hl.1 (i + 1) m (by omega); omega
          obtain ⟨J1, L1, t1, q1, r1, r2, r3, r4, r5, r6⟩ := ((ih (wl (i + 1)) (by omega)).1 i mt1 75 true 0 rho0 n1 (ln i) (by omega) hmt1 q S sg (hv.let o i2 i1 (by omega))).1 rfl f c (t + 1) e Ja _ (by omega) (by omega) b2
          refine ⟨J1, L1, t1, q1, ?_, r2, r3, r4, ?_⟩
          · rw [B285_0, jgo_some (d := e) rfl und_r]
            dsimp only [Option.toList_some, Option.toList_none, List.cons_append, List.nil_append]
            rw [B285_4, if_pos (hst.on ht), if_pos (j_in_nI a2 (by decide)), nI_clamp (by omega), hst.cell (k := 21) (by decide) (by decide), o, if_neg (by decide), if_neg (by decide), if_pos (by decide), jgo_some (d := e) rfl b1]
            dsimp only [Option.toList_some, Option.toList_none, List.cons_append, List.nil_append]
            rw [B285_125, if_pos (j_in_nI a2 (by decide)), nI_clamp (n := k) (by omega), b2.cell (k := 22) (by decide) (by decide), i2, if_pos (j_in_nI (by omega) (by decide)), nI_clamp (n := i) (by omega), b2.cell (k := 27) (by decide) (by decide), o0 i (by omega), jgo_some (d := e) rfl r1]
            dsimp only [Option.toList_some, Option.toList_none, List.cons_append, List.nil_append]
            rw [B285_140]
          · rw [if_neg (by rw [o]; decide), if_neg (by rw [o]; decide), if_pos o, show J0 (21 + 1) k = nI i from i2, nI_clamp (n := i) (by omega)]
            exact rSp.un r5 r5.1 (fun z => z)
        · -- a table
          have o : J0 21 k = 4 := o
          have e1 : J0 22 k = nI i := e1
          have e2 : J0 23 k = nI k1 := e2
          obtain ⟨J1, L1, t1, q1, r1, r2, r3, r4, r5, r6⟩ := (sub true n1 k1 q ⟨(rel_k q).2, Or.inl ⟨e2, Or.inl o⟩⟩).1 rfl f c (t + 1) e Ja _ (by omega) (by omega) b2
          obtain ⟨J2, L2, p1, p2⟩ := o3 e S sg c t1 J1 L1 i q1 (by omega) (by omega) r2 r5.1
          refine ⟨J2, fqR L2 (tq i q1), t1, tq i q1, ?_, p2.fr hW _, by rw [fqR_54], by rw [fqR_55], ?_⟩
          · rw [B285_0, jgo_some (d := e) rfl und_r]
            dsimp only [Option.toList_some, Option.toList_none, List.cons_append, List.nil_append]
            rw [B285_4, if_pos (hst.on ht), if_pos (j_in_nI a2 (by decide)), nI_clamp (by omega), hst.cell (k := 21) (by decide) (by decide), o, if_neg (by decide), if_neg (by decide), if_neg (by decide), if_pos (by decide), jgo_some (d := e) rfl b1]
            dsimp only [Option.toList_some, Option.toList_none, List.cons_append, List.nil_append]
            rw [B285_145, if_pos (j_in_nI a2 (by decide)), nI_clamp (n := k) (by omega), b2.cell (k := 23) (by decide) (by decide), e2, jgo_some (d := e) rfl r1]
            dsimp only [Option.toList_some, Option.toList_none, List.cons_append, List.nil_append]
            rw [B285_155, if_pos (j_in_nI a2 (by decide)), nI_clamp (n := k) (by omega), r2.cell (k := 22) (by decide) (by decide), e1, r3, r4, jgo_some (d := e) rfl p1]
            dsimp only [Option.toList_some, Option.toList_none, List.cons_append, List.nil_append]
            rw [B285_173]
          · rw [if_neg (by rw [o]; decide), if_neg (by rw [o]; decide), if_neg (by rw [o]; decide), if_pos o, show J0 (21 + 1) k = nI i from e1, nI_clamp (n := i) (by omega), show J0 (21 + 2) k = nI k1 from e2, nI_clamp (n := k1) (by have := (rel_k q).2; omega)]
            exact rSp.un r5 (w3 i q1 (by omega)).1 (fun z => by rw [z])
        · -- a word
          have o : J0 21 k = 5 := o
          have e1 : J0 22 k = nI i := e1
          obtain ⟨J2, L2, p1, p2⟩ := o1 e S sg c (t + 1) Ja _ i (by omega) i1 b2
          refine ⟨J2, fqR L2 (wd i), t + 1, wd i, ?_, p2.fr hW _, by rw [fqR_54], by rw [fqR_55], ?_⟩
          · rw [B285_0, jgo_some (d := e) rfl und_r]
            dsimp only [Option.toList_some, Option.toList_none, List.cons_append, List.nil_append]
            rw [B285_4, if_pos (hst.on ht), if_pos (j_in_nI a2 (by decide)), nI_clamp (by omega), hst.cell (k := 21) (by decide) (by decide), o, if_neg (by decide), if_neg (by decide), if_neg (by decide), if_neg (by decide), if_pos (by decide), jgo_some (d := e) rfl b1]
            dsimp only [Option.toList_some, Option.toList_none, List.cons_append, List.nil_append]
            rw [B285_178, if_pos (j_in_nI a2 (by decide)), nI_clamp (n := k) (by omega), b2.cell (k := 22) (by decide) (by decide), e1, jgo_some (d := e) rfl p1]
            dsimp only [Option.toList_some, Option.toList_none, List.cons_append, List.nil_append]
            rw [B285_188]
          · rw [if_neg (by rw [o]; decide), if_neg (by rw [o]; decide), if_neg (by rw [o]; decide), if_neg (by rw [o]; decide), if_pos o, show J0 (21 + 1) k = nI i from e1, nI_clamp (n := i) (by omega)]
            exact rSp.leaf (w1 i i1).1
        · -- a word of something
          have o : J0 21 k = 6 := o
          have e1 : J0 22 k = nI i := e1
          have e2 : J0 23 k = nI k1 := e2
          obtain ⟨J1, L1, t1, q1, r1, r2, r3, r4, r5, r6⟩ := (sub true n1 k1 q ⟨(rel_k q).2, Or.inl ⟨e2, Or.inr o⟩⟩).1 rfl f c (t + 1) e Ja _ (by omega) (by omega) b2
          obtain ⟨J2, L2, p1, p2⟩ := o2 e S sg c t1 J1 L1 i q1 (by omega) i1 r2 r5.1
          refine ⟨J2, fqR L2 (wo i q1), t1, wo i q1, ?_, p2.fr hW _, by rw [fqR_54], by rw [fqR_55], ?_⟩
          · rw [B285_0, jgo_some (d := e) rfl und_r]
            dsimp only [Option.toList_some, Option.toList_none, List.cons_append, List.nil_append]
            rw [B285_4, if_pos (hst.on ht), if_pos (j_in_nI a2 (by decide)), nI_clamp (by omega), hst.cell (k := 21) (by decide) (by decide), o, if_neg (by decide), if_neg (by decide), if_neg (by decide), if_neg (by decide), if_neg (by decide), if_pos (by decide), jgo_some (d := e) rfl b1]
            dsimp only [Option.toList_some, Option.toList_none, List.cons_append, List.nil_append]
            rw [B285_193, if_pos (j_in_nI a2 (by decide)), nI_clamp (n := k) (by omega), b2.cell (k := 23) (by decide) (by decide), e2, jgo_some (d := e) rfl r1]
            dsimp only [Option.toList_some, Option.toList_none, List.cons_append, List.nil_append]
            rw [B285_203, if_pos (j_in_nI a2 (by decide)), nI_clamp (n := k) (by omega), r2.cell (k := 22) (by decide) (by decide), e1, r3, r4, jgo_some (d := e) rfl p1]
            dsimp only [Option.toList_some, Option.toList_none, List.cons_append, List.nil_append]
            rw [B285_221]
          · rw [if_neg (by rw [o]; decide), if_neg (by rw [o]; decide), if_neg (by rw [o]; decide), if_neg (by rw [o]; decide), if_neg (by rw [o]; decide), if_pos o, show J0 (21 + 1) k = nI i from e1, nI_clamp (n := i) (by omega), show J0 (21 + 2) k = nI k1 from e2, nI_clamp (n := k1) (by have := (rel_k q).2; omega)]
            exact rSp.un r5 (w2 i q1 i1).1 (fun z => by rw [z])
        · -- minus
          have o : J0 21 k = 11 := o
          have e1 : J0 22 k = nI k1 := e1
          obtain ⟨J1, L1, t1, q1, r1, r2, r3, r4, r5, r6⟩ := (sub true n1 k1 q ⟨(rel_k q).2, Or.inr (Or.inl ⟨e1, Or.inl o⟩)⟩).1 rfl f c (t + 1) e Ja _ (by omega) (by omega) b2
          have nq : fN (-q1.1, q1.2) := ⟨⟨by have := r5.1.1.2; show -HG ≤ -q1.1; omega, by have := r5.1.1.1; show -q1.1 ≤ HG; omega⟩, r5.1.2⟩
          refine ⟨J1, fqR L1 (-q1.1, q1.2), t1, (-q1.1, q1.2), ?_, r2.fr hW _, by rw [fqR_54], by rw [fqR_55], ?_⟩
          · have eL : j_up L1 0 54 (-(L1 0 54)) = fqR L1 (-q1.1, q1.2) := by
              unfold fqR
              rw [r3, lI_neg, show lI (-q1.1, q1.2).2 = j_up L1 0 54 (lI (-q1.1, q1.2).1) 0 55 by rw [j_up_own, if_neg (by decide), r4], j_up_id]
            rw [B285_0, jgo_some (d := e) rfl und_r]
            dsimp only [Option.toList_some, Option.toList_none, List.cons_append, List.nil_append]
            rw [B285_4, if_pos (hst.on ht), if_pos (j_in_nI a2 (by decide)), nI_clamp (by omega), hst.cell (k := 21) (by decide) (by decide), o, if_neg (by decide), if_neg (by decide), if_neg (by decide), if_neg (by decide), if_neg (by decide), if_neg (by decide), if_neg (by decide), if_neg (by decide), if_neg (by decide), if_neg (by decide), if_pos (by decide), jgo_some (d := e) rfl b1]
            dsimp only [Option.toList_some, Option.toList_none, List.cons_append, List.nil_append]
            rw [B285_285, if_pos (j_in_nI a2 (by decide)), nI_clamp (n := k) (by omega), b2.cell (k := 22) (by decide) (by decide), e1, jgo_some (d := e) rfl r1]
            dsimp only [Option.toList_some, Option.toList_none, List.cons_append, List.nil_append]
            rw [B285_295, eL]
          · rw [if_neg (by rw [o]; decide), if_neg (by rw [o]; decide), if_neg (by rw [o]; decide), if_neg (by rw [o]; decide), if_neg (by rw [o]; decide), if_neg (by rw [o]; decide), if_neg (by rw [o]; decide), if_pos o, show J0 (21 + 1) k = nI k1 from e1, nI_clamp (n := k1) (by have := (rel_k q).2; omega)]
            exact rSp.un r5 nq (fun z => by rw [z])
        · -- a choice
          have o : J0 21 k = 7 := o
          have e1 : J0 22 k = nI k1 := e1
          have e2 : J0 23 k = nI k2 := e2
          have e3 : J0 24 k = nI k3 := e3
          rw [if_neg (by rw [o]; decide), if_neg (by rw [o]; decide), if_neg (by rw [o]; decide), if_neg (by rw [o]; decide), if_neg (by rw [o]; decide), if_neg (by rw [o]; decide), if_pos o, show J0 (21 + 1) k = nI k1 from e1, show J0 (21 + 2) k = nI k2 from e2, show J0 (21 + 3) k = nI k3 from e3, nI_clamp (n := k1) (by have := (rel_k q1).2; omega), nI_clamp (n := k2) (by have := (rel_k q2).2; omega), nI_clamp (n := k3) (by have := (rel_k q3).2; omega)]
          exact choice_r hW ((sub false n1 k1 q1 ⟨(rel_k q1).2, Or.inr (Or.inr (Or.inr ⟨Or.inl e1, Or.inl o⟩))⟩).2 rfl) ((sub true n2 k2 q2 ⟨(rel_k q2).2, Or.inr (Or.inr (Or.inr ⟨Or.inr (Or.inl e2), Or.inl o⟩))⟩).1 rfl) ((sub true n3 k3 q3 ⟨(rel_k q3).2, Or.inr (Or.inr (Or.inr ⟨Or.inr (Or.inr e3), Or.inl o⟩))⟩).1 rfl) o e1 e2 e3 a2 (by omega) ht (by omega) hst
        · -- a series
          have o : J0 21 k = nI (8 + i) := o
          have e1 : J0 22 k = nI k1 := e1
          have e2 : J0 23 k = nI k2 := e2
          have e3 : J0 24 k = nI k3 := e3
          have no : ∀ j : Int32, (j = 1 ∨ j = 2 ∨ j = 3 ∨ j = 4 ∨ j = 5 ∨ j = 6 ∨ j = 7 ∨ j = 11 ∨ j = 12 ∨ j = 13 ∨ j = 14 ∨ j = 15) → J0 (21 + 0) k ≠ j := by
            intro j hj z
            rw [show J0 (21 + 0) k = nI (8 + i) from o] at z
            subst z
            rcases (show i = 0 ∨ i = 1 ∨ i = 2 by omega) with y | y | y <;> subst y <;> exact absurd hj (by decide)
          have kd : (if J0 (21 + 0) k = 8 then 0 else if J0 (21 + 0) k = 9 then 1 else 2) = i := by
            rw [show J0 (21 + 0) k = nI (8 + i) from o]
            rcases (show i = 0 ∨ i = 1 ∨ i = 2 by omega) with y | y | y <;> subst y <;> rfl
          have th : J0 21 k = 7 ∨ J0 21 k = 8 ∨ J0 21 k = 9 ∨ J0 21 k = 10 := by
            rw [o]
            rcases (show i = 0 ∨ i = 1 ∨ i = 2 by omega) with y | y | y <;> subst y <;> decide
          have lw3 : w2' < w := by omega
          have c1 : chd (fun c i => J0 (21 + c) i) k k1 := ⟨(rel_k q1).2, Or.inr (Or.inr (Or.inr ⟨Or.inl e1, th⟩))⟩
          have c2 : chd (fun c i => J0 (21 + c) i) k k2 := ⟨(rel_k q2).2, Or.inr (Or.inr (Or.inr ⟨Or.inr (Or.inl e2), th⟩))⟩
          have c3 : chd (fun c i => J0 (21 + c) i) k k3 := ⟨(rel_k q3).2, Or.inr (Or.inr (Or.inr ⟨Or.inr (Or.inr e3), th⟩))⟩
          have g1 := ((ih w2' lw3).1 m mt h true s rho n1 k1 hm hmt q1 S sg (hv.part c1)).1 rfl
          have g2 := ((ih w2' lw3).1 m mt h true s rho n2 k2 hm hmt q2 S sg (hv.part c2)).1 rfl
          have g3 := ((ih w2' lw3).1 m mt h true (s + 1) (upN rho s k) n3 k3 hm hmt q3 (S + 1) (upN sg S k) (hv.ser c3)).1 rfl
          rw [if_neg (no 1 (by decide)), if_neg (no 2 (by decide)), if_neg (no 3 (by decide)), if_neg (no 4 (by decide)), if_neg (no 5 (by decide)), if_neg (no 6 (by decide)), if_neg (no 7 (by decide)), if_neg (no 11 (by decide)), if_neg (show ¬ (J0 (21 + 0) k = 12 ∨ J0 (21 + 0) k = 13 ∨ J0 (21 + 0) k = 14 ∨ J0 (21 + 0) k = 15) from fun z => by rcases z with z | z | z | z; exact no 12 (by decide) z; exact no 13 (by decide) z; exact no 14 (by decide) z; exact no 15 (by decide) z), show J0 (21 + 1) k = nI k1 from e1, show J0 (21 + 2) k = nI k2 from e2, show J0 (21 + 3) k = nI k3 from e3, nI_clamp (n := k1) (by have := (rel_k q1).2; omega), nI_clamp (n := k2) (by have := (rel_k q2).2; omega), nI_clamp (n := k3) (by have := (rel_k q3).2; omega), kd]
          exact series_r hW g1 g2 g3 (hv.ne hkT (by omega) hne) o i3 e1 e2 e3 a2 (fun v => hnz w2' m mt h (s + 1) (upN rho s k) n3 k3 hm hmt q3 f _ (by omega)) (by omega) ht (by omega) hst
      · refine ⟨fun z => absurd z (by decide), fun _ => sayP.of (fun f c t e J L hf he ht hst => ?_)⟩
        obtain ⟨f, rfl⟩ : ∃ g, f = g + 1 := ⟨f - 1, by omega⟩
        obtain ⟨e, rfl⟩ : ∃ e', e = e' + 1 := ⟨e - 1, by omega⟩
        dsimp only
        rw [ev_f]
        rcases z with ⟨_, o, n1, k1, _, e1, q⟩ | ⟨_, o, n1, k1, n2, k2, _, e1, q1, _, e2, q2⟩
        · have o : J0 21 k = 22 := o
          have e1 : J0 22 k = nI k1 := e1
          rw [if_pos o, show J0 (21 + 1) k = nI k1 from e1, nI_clamp (n := k1) (by have := (rel_k q).2; omega)]
          exact not_r hW ((sub false n1 k1 q ⟨(rel_k q).2, Or.inr (Or.inl ⟨e1, Or.inr o⟩)⟩).2 rfl) o e1 a2 (by omega) ht (by omega) hst
        · have e1 : J0 22 k = nI k1 := e1
          have e2 : J0 23 k = nI k2 := e2
          have ho : J0 21 k = 23 ∨ J0 21 k = 24 ∨ J0 21 k = 25 ∨ J0 21 k = 26 ∨ J0 21 k = 27 ∨ J0 21 k = 28 := by
            rcases o with ⟨_, o⟩ | ⟨_, o⟩ | ⟨_, o⟩ | ⟨_, o⟩ | ⟨_, o⟩ | ⟨_, o⟩ <;> rw [show J0 21 k = _ from o] <;> decide
          have tw : J0 21 k = 12 ∨ J0 21 k = 13 ∨ J0 21 k = 14 ∨ J0 21 k = 15 ∨ J0 21 k = 20 ∨ J0 21 k = 21 ∨ J0 21 k = 23 ∨ J0 21 k = 24 ∨ J0 21 k = 25 ∨ J0 21 k = 26 ∨ J0 21 k = 27 ∨ J0 21 k = 28 := Or.inr (Or.inr (Or.inr (Or.inr (Or.inr (Or.inr ho)))))
          rw [if_neg (show ¬ J0 (21 + 0) k = 22 by rcases ho with z | z | z | z | z | z <;> rw [show J0 (21 + 0) k = _ from z] <;> decide), if_neg (show ¬ (J0 (21 + 0) k = 20 ∨ J0 (21 + 0) k = 21) by rcases ho with z | z | z | z | z | z <;> rw [show J0 (21 + 0) k = _ from z] <;> decide), show J0 (21 + 1) k = nI k1 from e1, show J0 (21 + 2) k = nI k2 from e2, nI_clamp (n := k1) (by have := (rel_k q1).2; omega), nI_clamp (n := k2) (by have := (rel_k q2).2; omega)]
          exact comp_r hW ((sub true n1 k1 q1 ⟨(rel_k q1).2, Or.inr (Or.inr (Or.inl ⟨Or.inl e1, tw⟩))⟩).1 rfl) ((sub true n2 k2 q2 ⟨(rel_k q2).2, Or.inr (Or.inr (Or.inl ⟨Or.inr e2, tw⟩))⟩).1 rfl) rfl ho e1 e2 a2 (by omega) ht (by omega) hst
end EVAP
