/-! RULES: the second one works out sums and conditions -/
section EVAL
variable {wJ : (Nat → Nat → Int32) → (Nat → Nat → Int64) → Prop} {J0 : Nat → Nat → Int32} {L0 : Nat → Nat → Int64} {ln : Nat → Nat} {tq : Nat → Int × Int → Int × Int} {wd : Nat → Int × Int} {wo : Nat → Int × Int → Int × Int}
/-- the second one under way -/
def rSt (wJ : (Nat → Nat → Int32) → (Nat → Nat → Int64) → Prop) (J0 : Nat → Nat → Int32) (L0 : Nat → Nat → Int64) (s : Nat) (rho : Nat → Nat) (c : Nat → Int) (t : Nat) (J : Nat → Nat → Int32) (L : Nat → Nat → Int64) : Prop := (∀ k, k ≠ 0 → k < 38 → J k = J0 k) ∧ (∀ q, q < 53 → J 0 q = J0 0 q) ∧ ((t ≤ 10000 ∧ J 0 56 = nI t ∧ J 0 57 = 0) ∨ (10000 < t ∧ J 0 57 = 1)) ∧ (∀ k, k ≠ 0 → k < 37 → L k = L0 k) ∧ (∀ i, i < s → L 37 (rho i) = lI (c (rho i)) ∧ fB (c (rho i))) ∧ wJ J L
def wStR (wJ : (Nat → Nat → Int32) → (Nat → Nat → Int64) → Prop) : Prop := ∀ J L J' L', wJ J L → (∀ k, k ≠ 0 → J' k = J k) → (∀ q, q ≠ 53 → q ≠ 56 → q ≠ 57 → J' 0 q = J 0 q) → (∀ k, k ≠ 0 → k ≠ 37 → L' k = L k) → (∀ q, q ≠ 54 → q ≠ 55 → L' 0 q = L 0 q) → wJ J' L'
variable {s : Nat} {rho : Nat → Nat} {c : Nat → Int} {t : Nat} {J : Nat → Nat → Int32} {L : Nat → Nat → Int64}
theorem rSt.fr (hw : wStR wJ) (h : rSt wJ J0 L0 s rho c t J L) (p : Int × Int) : rSt wJ J0 L0 s rho c t J (fqR L p) :=
  ⟨h.1, h.2.1, h.2.2.1, fun k a b => by rw [fqR_c p a]; exact h.2.2.2.1 k a b, fun i hi => by rw [fqR_c p (by decide)]; exact h.2.2.2.2.1 i hi, hw J L _ _ h.2.2.2.2.2 (fun _ _ => rfl) (fun _ _ _ _ => rfl) (fun k hk _ => fqR_c p hk) (fun q a b => fqR_q p a b)⟩
theorem rSt.bg (hw : wStR wJ) (h : rSt wJ J0 L0 s rho c t J L) (x : Int32) : rSt wJ J0 L0 s rho c t (j_up J 0 53 x) L :=
  ⟨fun k a b => by rw [j_up_cell _ a]; exact h.1 k a b, fun q a => by rw [j_up_own, if_neg (by omega)]; exact h.2.1 q a, by rw [j_up_own, if_neg (by decide), j_up_own, if_neg (by decide)]; exact h.2.2.1, h.2.2.2.1, h.2.2.2.2.1, hw J L _ _ h.2.2.2.2.2 (fun k hk => j_up_cell _ hk _ _) (fun q a b d => by rw [j_up_own, if_neg a]) (fun _ _ _ => rfl) (fun _ _ _ => rfl)⟩
theorem rSt.cell (h : rSt wJ J0 L0 s rho c t J L) {k : Nat} (h0 : k ≠ 0) (hk : k < 38) : J k = J0 k := h.1 k h0 hk
/-- one step -/
theorem stp_r {e : Nat} (hw : wStR wJ) (h : rSt wJ J0 L0 s rho c t J L) (ht : t ≤ 10000) : ∃ J', jv e 284 0 [some (.ref 0)] [] (shR, J, L, pR) = some (none, (shR, J', L, pR)) ∧ rSt wJ J0 L0 s rho c (t + 1) J' L := by
  have h56 : J 0 56 = nI t ∧ J 0 57 = 0 := by
    rcases h.2.2.1 with z | z
    · exact z.2
    · omega
  have fr : ∀ x : Int32, ((t + 1 ≤ 10000 ∧ x = 0) ∨ (10000 < t + 1 ∧ x = 1)) → rSt wJ J0 L0 s rho c (t + 1) (j_up (j_up J 0 56 (nI (t + 1))) 0 57 x) L := by
    intro x hx
    refine ⟨fun k a b => by rw [j_up_cell _ a, j_up_cell _ a]; exact h.1 k a b, fun q a => by rw [j_up_own, if_neg (by omega), j_up_own, if_neg (by omega)]; exact h.2.1 q a, ?_, h.2.2.2.1, h.2.2.2.2.1, hw J L _ _ h.2.2.2.2.2 (fun k hk => by rw [j_up_cell _ hk, j_up_cell _ hk]) (fun q a b d => by rw [j_up_own, if_neg d, j_up_own, if_neg b]) (fun _ _ _ => rfl) (fun _ _ _ => rfl)⟩
    rw [j_up_own, if_neg (by decide), j_up_own, if_pos rfl, j_up_own, if_pos rfl]
    rcases hx with z | z
    · exact Or.inl ⟨z.1, rfl, z.2⟩
    · exact Or.inr z
  have c57 : j_up J 0 56 (nI (t + 1)) 0 57 = 0 := by rw [j_up_own, if_neg (by decide)]; exact h56.2
  have c56 : j_up J 0 56 (nI (t + 1)) 0 56 = nI (t + 1) := by rw [j_up_own, if_pos rfl]
  rw [B284_0, h56.1, show nI t + 1 = nI (t + 1) from nI_add t 1, c57, if_pos rfl, c56]
  by_cases q : 10000 < t + 1
  · refine ⟨_, ?_, fr 1 (Or.inr ⟨q, rfl⟩)⟩
    rw [if_pos (show (10000 : Int32) < nI (t + 1) from nI_lt (a := 10000) q (by omega)), B284_28, B284_33, if_pos (by decide)]
  · refine ⟨_, ?_, fr 0 (Or.inl ⟨by omega, rfl⟩)⟩
    rw [if_neg (show ¬ (10000 : Int32) < nI (t + 1) from nI_nlt (a := 10000) (by omega) (by omega)), B284_33, if_pos (by decide)]
def rSp (t N : Nat) (p q : Int × Int) (t' : Nat) : Prop := fN q ∧ (t + N ≤ 10000 → t' = t + N ∧ q = p) ∧ (10000 < t + N → 10000 < t')
def rSv (t N : Nat) (p v : Int) (t' : Nat) : Prop := v3 v ∧ (t + N ≤ 10000 → t' = t + N ∧ v = p) ∧ (10000 < t + N → 10000 < t')
def valP (wJ : (Nat → Nat → Int32) → (Nat → Nat → Int64) → Prop) (J0 : Nat → Nat → Int32) (L0 : Nat → Nat → Int64) (E : Nat → (Nat → Int) → Nat × Int × Int) (w s : Nat) (rho : Nat → Nat) (k : Nat) : Prop := ∀ f c t e J L, w ≤ f → 70 + w ≤ e → rSt wJ J0 L0 s rho c t J L → ∃ J' L' t' q, jv e 285 0 [some (.ref 0), some (.int (nI k)), none, none, none, none, none] [] (shR, J, L, pR) = some (none, (shR, J', L', pR)) ∧ rSt wJ J0 L0 s rho c t' J' L' ∧ L' 0 54 = lI q.1 ∧ L' 0 55 = lI q.2 ∧ rSp t (E f c).1 (E f c).2 q t' ∧ (10000 < t → 10000 < t')
def sayP (wJ : (Nat → Nat → Int32) → (Nat → Nat → Int64) → Prop) (J0 : Nat → Nat → Int32) (L0 : Nat → Nat → Int64) (E : Nat → (Nat → Int) → Nat × Int × Int) (w s : Nat) (rho : Nat → Nat) (k : Nat) : Prop := ∀ f c t e J L, w ≤ f → 70 + w ≤ e → rSt wJ J0 L0 s rho c t J L → ∃ J' L' t' v, jv e 290 0 [some (.ref 0), some (.int (nI k)), none, none, none, none, none, none] [] (shR, J, L, pR) = some (some (.int (vI v)), (shR, J', L', pR)) ∧ rSt wJ J0 L0 s rho c t' J' L' ∧ rSv t (E f c).1 (E f c).2.1 v t' ∧ (10000 < t → 10000 < t')
theorem val_over {e k : Nat} (hw : wStR wJ) (h : rSt wJ J0 L0 s rho c t J L) (ht : 10000 < t) : jv (e + 1) 285 0 [some (.ref 0), some (.int (nI k)), none, none, none, none, none] [] (shR, J, L, pR) = some (none, (shR, J, fqR L (0, 0), pR)) := by
  have h57 : J 0 57 ≠ 0 := by
    rcases h.2.2.1 with z | z
    · omega
    · rw [z.2]; decide
  rw [B285_0, jgo_some (d := e) rfl und_r]
  dsimp only [Option.toList_some, Option.toList_none, List.cons_append, List.nil_append]
  rw [B285_4, if_neg h57]
theorem say_over {e k : Nat} (h : rSt wJ J0 L0 s rho c t J L) (ht : 10000 < t) : jv e 290 0 [some (.ref 0), some (.int (nI k)), none, none, none, none, none, none] [] (shR, J, L, pR) = some (some (.int 2), (shR, J, L, pR)) := by
  have h57 : J 0 57 ≠ 0 := by
    rcases h.2.2.1 with z | z
    · omega
    · rw [z.2]; decide
  rw [B290_0, if_neg h57]
theorem rSt.on (h : rSt wJ J0 L0 s rho c t J L) (ht : t ≤ 10000) : J 0 57 = 0 := by
  rcases h.2.2.1 with z | z
  · exact z.2.2
  · omega
/-- two parts behind one step -/
theorem rSp.two {t N1 N2 t1 t2 : Nat} {p1 p2 q1 q2 P Q : Int × Int} (h1 : rSp (t + 1) N1 p1 q1 t1) (h2 : rSp t1 N2 p2 q2 t2) (o2 : 10000 < t1 → 10000 < t2) (hQ : fN Q) (hPQ : q1 = p1 → q2 = p2 → Q = P) : rSp t (N1 + N2 + 1) P Q t2 := by
  refine ⟨hQ, fun z => ?_, fun z => ?_⟩
  · have a := h1.2.1 (by omega)
    have b := h2.2.1 (by omega)
    exact ⟨by omega, hPQ a.2 b.2⟩
  · by_cases z1 : t + 1 + N1 ≤ 10000
    · have a := h1.2.1 z1
      exact h2.2.2 (by omega)
    · exact o2 (h1.2.2 (by omega))
theorem rSv.two {t N1 N2 t1 t2 : Nat} {p1 p2 v1 v2 P Q : Int} (h1 : rSv (t + 1) N1 p1 v1 t1) (h2 : rSv t1 N2 p2 v2 t2) (o2 : 10000 < t1 → 10000 < t2) (hQ : v3 Q) (hPQ : v1 = p1 → v2 = p2 → Q = P) : rSv t (N1 + N2 + 1) P Q t2 := by
  refine ⟨hQ, fun z => ?_, fun z => ?_⟩
  · have a := h1.2.1 (by omega)
    have b := h2.2.1 (by omega)
    exact ⟨by omega, hPQ a.2 b.2⟩
  · by_cases z1 : t + 1 + N1 ≤ 10000
    · have a := h1.2.1 z1
      exact h2.2.2 (by omega)
    · exact o2 (h1.2.2 (by omega))
theorem rSp.un {t N t1 : Nat} {p q P Q : Int × Int} (h1 : rSp (t + 1) N p q t1) (hQ : fN Q) (hPQ : q = p → Q = P) : rSp t (N + 1) P Q t1 :=
  ⟨hQ, fun z => by have a := h1.2.1 (by omega); exact ⟨by omega, hPQ a.2⟩, fun z => h1.2.2 (by omega)⟩
theorem rSp.leaf {t : Nat} {p : Int × Int} (hp : fN p) : rSp t 1 p p (t + 1) := ⟨hp, fun _ => ⟨rfl, rfl⟩, fun z => z⟩
/-- an operator between two numbers -/
theorem bin_r {k k1 k2 w' : Nat} (hW : wStR wJ) {E1 E2 : Nat → (Nat → Int) → Nat × Int × Int} (hs1 : valP wJ J0 L0 E1 w' s rho k1) (hs2 : valP wJ J0 L0 E2 w' s rho k2) {kk : Nat} (hk : kk < 4) (e0 : J0 21 k = opR kk) (e1 : J0 22 k = nI k1) (e2 : J0 23 k = nI k2) (hn : k < 1400) {f e : Nat} (hf : w' ≤ f) (ht : t ≤ 10000) (he : 71 + w' ≤ e) (hst : rSt wJ J0 L0 s rho c t J L) : ∃ J' L' t' q, jv e 285 0 [some (.ref 0), some (.int (nI k)), none, none, none, none, none] [] (shR, J, L, pR) = some (none, (shR, J', L', pR)) ∧ rSt wJ J0 L0 s rho c t' J' L' ∧ L' 0 54 = lI q.1 ∧ L' 0 55 = lI q.2 ∧ rSp t ((E1 f c).1 + (E2 f c).1 + 1) (fA kk (E1 f c).2.1 (E1 f c).2.2 (E2 f c).2.1 (E2 f c).2.2) q t' := by
  obtain ⟨e, rfl⟩ : ∃ e', e = e' + 3 := ⟨e - 3, by omega⟩
  have st0 := hst.fr hW (0, 0)
  obtain ⟨Ja, a1, a2⟩ := stp_r (e := e + 2) hW st0 ht
  obtain ⟨J1, L1, t1, q1, r1, r2, r3, r4, r5, r6⟩ := hs1 f c (t + 1) (e + 2) Ja _ hf (by omega) a2
  obtain ⟨J2, L2, t2, q2, s1, s2, s3, s4, s5, s6⟩ := hs2 f c t1 (e + 2) J1 L1 hf (by omega) r2
  obtain ⟨x, u1⟩ := act_r (e := e) (J := J2) (L' := L2) hk r5.1.1 r5.1.d s5.1.1 s5.1.d
  refine ⟨_, _, t2, fA kk q1.1 q1.2 q2.1 q2.2, ?_, (s2.bg hW x).fr hW _, by rw [fqR_54], by rw [fqR_55], rSp.two r5 s5 s6 (fA_b _ _ _ _ _) (fun z1 z2 => by rw [z1, z2])⟩
  have ne : ∀ j : Int32, (j = Int32.ofInt 1 ∨ j = Int32.ofInt 2 ∨ j = Int32.ofInt 3 ∨ j = Int32.ofInt 4 ∨ j = Int32.ofInt 5 ∨ j = Int32.ofInt 6 ∨ j = Int32.ofInt 7 ∨ j = Int32.ofInt 8 ∨ j = Int32.ofInt 9 ∨ j = Int32.ofInt 10 ∨ j = Int32.ofInt 11) → J0 21 k ≠ j := by
    intro j hj z
    rw [e0] at z
    subst z
    rcases (show kk = 0 ∨ kk = 1 ∨ kk = 2 ∨ kk = 3 by omega) with y | y | y | y <;> subst y <;> exact absurd hj (by decide)
  rw [B285_0, jgo_some (d := e + 2) rfl und_r]
  dsimp only [Option.toList_some, Option.toList_none, List.cons_append, List.nil_append]
  rw [B285_4, if_pos (hst.on ht), if_pos (j_in_nI hn (by decide)), nI_clamp (by omega), hst.cell (k := 21) (by decide) (by decide), if_neg (ne _ (by decide)), if_neg (ne _ (by decide)), if_neg (ne _ (by decide)), if_neg (ne _ (by decide)), if_neg (ne _ (by decide)), if_neg (ne _ (by decide)), if_neg (ne _ (by decide)), if_neg (ne _ (by decide)), if_neg (ne _ (by decide)), if_neg (ne _ (by decide)), if_neg (ne _ (by decide)), jgo_some (d := e + 2) rfl a1]
  dsimp only [Option.toList_some, Option.toList_none, List.cons_append, List.nil_append]
  rw [B285_309, if_pos (j_in_nI hn (by decide)), nI_clamp (by omega), a2.cell (k := 22) (by decide) (by decide), e1, jgo_some (d := e + 2) rfl r1]
  dsimp only [Option.toList_some, Option.toList_none, List.cons_append, List.nil_append]
  rw [B285_319, if_pos (j_in_nI hn (by decide)), nI_clamp (by omega), r2.cell (k := 23) (by decide) (by decide), e2, jgo_some (d := e + 2) rfl s1]
  dsimp only [Option.toList_some, Option.toList_none, List.cons_append, List.nil_append]
  rw [B285_340, if_pos (j_in_nI hn (by decide)), nI_clamp (by omega), s2.cell (k := 21) (by decide) (by decide), e0, r3, r4, s3, s4, jgo_some (d := e + 2) rfl u1]
  dsimp only [Option.toList_some, Option.toList_none, List.cons_append, List.nil_append]
  rw [B285_361]
/-- and, or -/
theorem join_r {k k1 k2 w' : Nat} (hW : wStR wJ) {E1 E2 : Nat → (Nat → Int) → Nat × Int × Int} (hs1 : sayP wJ J0 L0 E1 w' s rho k1) (hs2 : sayP wJ J0 L0 E2 w' s rho k2) {st : Int} (e0 : (J0 21 k = 20 ∧ st = 1) ∨ (J0 21 k = 21 ∧ st = 0)) (e1 : J0 22 k = nI k1) (e2 : J0 23 k = nI k2) (hn : k < 1400) {f e : Nat} (hf : w' ≤ f) (ht : t ≤ 10000) (he : 71 + w' ≤ e) (hst : rSt wJ J0 L0 s rho c t J L) : ∃ J' L' t' v, jv e 290 0 [some (.ref 0), some (.int (nI k)), none, none, none, none, none, none] [] (shR, J, L, pR) = some (some (.int (vI v)), (shR, J', L', pR)) ∧ rSt wJ J0 L0 s rho c t' J' L' ∧ rSv t ((E1 f c).1 + (E2 f c).1 + 1) (vdJ st (E1 f c).2.1 (E2 f c).2.1) v t' := by
  obtain ⟨e, rfl⟩ : ∃ e', e = e' + 1 := ⟨e - 1, by omega⟩
  obtain ⟨Ja, a1, a2⟩ := stp_r (e := e) hW hst ht
  obtain ⟨J1, L1, t1, v1, r1, r2, r5, r6⟩ := hs1 f c (t + 1) e Ja L hf (by omega) a2
  obtain ⟨J2, L2, t2, v2, s1, s2, s5, s6⟩ := hs2 f c t1 e J1 L1 hf (by omega) r2
  have st01 : st = 0 ∨ st = 1 := by rcases e0 with z | z <;> omega
  refine ⟨J2, L2, t2, vdJ st v1 v2, ?_, s2, rSv.two r5 s5 s6 (vdJ_3 st01) (fun z1 z2 => by rw [z1, z2])⟩
  have fin : jv (e + 1) 290 112 [some (.ref 0), some (.int (nI k)), some (.int (vI v1)), some (.int (vI v2)), none, none, none, none] [.int (vI st)] (shR, J2, L2, pR) = some (some (.int (vI (vdJ st v1 v2))), (shR, J2, L2, pR)) := by
    rw [B290_112]
    rcases st01 with rfl | rfl <;> rcases r5.1 with rfl | rfl | rfl <;> rcases s5.1 with rfl | rfl | rfl <;> simp (decide := true) only [↓reduceIte, B290_126, B290_141, B290_149] <;> rfl
  have mid : jv (e + 1) 290 70 [some (.ref 0), some (.int (nI k)), none, none, none, none, none, none] [] (shR, J, L, pR) = some (some (.int (vI (vdJ st v1 v2))), (shR, J2, L2, pR)) := by
    rw [B290_70, jgo_some (d := e) rfl a1]
    dsimp only [Option.toList_some, Option.toList_none, List.cons_append, List.nil_append]
    rw [B290_74, if_pos (j_in_nI hn (by decide)), nI_clamp (by omega), a2.cell (k := 22) (by decide) (by decide), e1, jgo_some (d := e) rfl r1]
    dsimp only [Option.toList_some, Option.toList_none, List.cons_append, List.nil_append]
    rw [B290_84, if_pos (j_in_nI hn (by decide)), nI_clamp (by omega), r2.cell (k := 23) (by decide) (by decide), e2, jgo_some (d := e) rfl s1]
    dsimp only [Option.toList_some, Option.toList_none, List.cons_append, List.nil_append]
    rw [B290_95, if_pos (j_in_nI hn (by decide)), nI_clamp (by omega), s2.cell (k := 21) (by decide) (by decide)]
    rcases e0 with ⟨e0, rfl⟩ | ⟨e0, rfl⟩
    · rw [e0, if_pos rfl]; exact fin
    · rw [e0, if_neg (by decide)]; exact fin
  rw [B290_0, if_pos (hst.on ht), if_pos (j_in_nI hn (by decide)), nI_clamp (by omega), hst.cell (k := 21) (by decide) (by decide)]
  rcases e0 with ⟨e0, rfl⟩ | ⟨e0, rfl⟩
  · rw [e0, if_neg (by decide), if_pos (j_in_nI hn (by decide)), if_pos rfl]; exact mid
  · rw [e0, if_neg (by decide), if_pos (j_in_nI hn (by decide)), if_neg (by decide), if_pos (j_in_nI hn (by decide)), if_pos rfl]; exact mid
/-- comparisons -/
theorem comp_r {k k1 k2 w' : Nat} (hW : wStR wJ) {E1 E2 : Nat → (Nat → Int) → Nat × Int × Int} (hs1 : valP wJ J0 L0 E1 w' s rho k1) (hs2 : valP wJ J0 L0 E2 w' s rho k2) {op : Int32} (e0 : J0 21 k = op) (ho : op = 23 ∨ op = 24 ∨ op = 25 ∨ op = 26 ∨ op = 27 ∨ op = 28) (e1 : J0 22 k = nI k1) (e2 : J0 23 k = nI k2) (hn : k < 1400) {f e : Nat} (hf : w' ≤ f) (ht : t ≤ 10000) (he : 71 + w' ≤ e) (hst : rSt wJ J0 L0 s rho c t J L) : ∃ J' L' t' v, jv e 290 0 [some (.ref 0), some (.int (nI k)), none, none, none, none, none, none] [] (shR, J, L, pR) = some (some (.int (vI v)), (shR, J', L', pR)) ∧ rSt wJ J0 L0 s rho c t' J' L' ∧ rSv t ((E1 f c).1 + (E2 f c).1 + 1) (vdQ op (fC (E1 f c).2.1 (E1 f c).2.2 (E2 f c).2.1 (E2 f c).2.2)) v t' := by
  obtain ⟨e, rfl⟩ : ∃ e', e = e' + 2 := ⟨e - 2, by omega⟩
  obtain ⟨Ja, a1, a2⟩ := stp_r (e := e + 1) hW hst ht
  obtain ⟨J1, L1, t1, q1, r1, r2, r3, r4, r5, r6⟩ := hs1 f c (t + 1) (e + 1) Ja L hf (by omega) a2
  obtain ⟨J2, L2, t2, q2, s1, s2, s3, s4, s5, s6⟩ := hs2 f c t1 (e + 1) J1 L1 hf (by omega) r2
  obtain ⟨x, u1⟩ := cmp3_r (e := e) (J := J2) (L' := L2) r5.1.1 r5.1.d s5.1.1 s5.1.d
  have st3 := s2.bg hW x
  refine ⟨_, L2, t2, vdQ op (fC q1.1 q1.2 q2.1 q2.2), ?_, st3, vdQ_3 _ _, fun z => ?_, fun z => ?_⟩
  · have n3 : op ≠ 22 ∧ op ≠ 20 ∧ op ≠ 21 := by rcases ho with z | z | z | z | z | z <;> subst z <;> decide
    rw [B290_0, if_pos (hst.on ht), if_pos (j_in_nI hn (by decide)), nI_clamp (by omega), hst.cell (k := 21) (by decide) (by decide), e0, if_neg n3.1, if_pos (j_in_nI hn (by decide)), if_neg n3.2.1, if_pos (j_in_nI hn (by decide)), if_neg n3.2.2, jgo_some (d := e + 1) rfl a1]
    dsimp only [Option.toList_some, Option.toList_none, List.cons_append, List.nil_append]
    rw [B290_154, if_pos (j_in_nI hn (by decide)), nI_clamp (by omega), a2.cell (k := 22) (by decide) (by decide), e1, jgo_some (d := e + 1) rfl r1]
    dsimp only [Option.toList_some, Option.toList_none, List.cons_append, List.nil_append]
    rw [B290_164, if_pos (j_in_nI hn (by decide)), nI_clamp (by omega), r2.cell (k := 23) (by decide) (by decide), e2, r3, r4, jgo_some (d := e + 1) rfl s1]
    dsimp only [Option.toList_some, Option.toList_none, List.cons_append, List.nil_append]
    rw [B290_185, s3, s4, jgo_some (d := e + 1) rfl u1]
    dsimp only [Option.toList_some, Option.toList_none, List.cons_append, List.nil_append]
    rw [B290_200, nI_clamp (by omega), st3.cell (k := 21) (by decide) (by decide), e0]
    have fin : ∀ z : Int32, z = 0 ∨ z = 1 → ∀ o : Int32, jv (e + 2) 290 340 [some (.ref 0), some (.int (nI k)), some (.long (lI q1.1)), none, some (.long (lI q1.2)), none, some (.int o), none] [.int z] (shR, j_up J2 0 53 x, L2, pR) = some (some (.int z), (shR, j_up J2 0 53 x, L2, pR)) := by
      intro z hz o
      rcases hz with rfl | rfl
      · rw [B290_340, if_pos rfl, B290_352]
      · rw [B290_340, if_neg (by decide), B290_352]
    have jn := j_in_nI hn (show 1400 < 2 ^ 31 by decide)
    generalize fC q1.1 q1.2 q2.1 q2.2 = o
    by_cases o2 : o = 2
    · subst o2; rw [if_pos rfl]; rfl
    rw [if_neg o2]
    unfold vdQ
    rw [if_neg o2]
    simp only [jn, if_true]
    rcases ho with h2 | h2 | h2 | h2 | h2 | h2 <;> subst h2
    · simp (decide := true) only [↓reduceIte]
      by_cases z : o = 0
      · rw [if_pos z, if_pos z, fin 1 (Or.inr rfl)]; rfl
      · rw [if_neg z, if_neg z, fin 0 (Or.inl rfl)]; rfl
    · simp (decide := true) only [↓reduceIte]
      by_cases z : o = 0
      · rw [if_pos z, if_pos z, fin 0 (Or.inl rfl)]; rfl
      · rw [if_neg z, if_neg z, fin 1 (Or.inr rfl)]; rfl
    · simp (decide := true) only [↓reduceIte]
      by_cases z : o < 0
      · rw [if_pos z, if_pos z, fin 1 (Or.inr rfl)]; rfl
      · rw [if_neg z, if_neg z, fin 0 (Or.inl rfl)]; rfl
    · simp (decide := true) only [↓reduceIte]
      by_cases z : 0 < o
      · rw [if_pos z, if_pos z, fin 1 (Or.inr rfl)]; rfl
      · rw [if_neg z, if_neg z, fin 0 (Or.inl rfl)]; rfl
    · simp (decide := true) only [↓reduceIte]
      by_cases z : 0 < o
      · rw [if_pos z, if_pos z, fin 0 (Or.inl rfl)]; rfl
      · rw [if_neg z, if_neg z, fin 1 (Or.inr rfl)]; rfl
    · simp (decide := true) only [↓reduceIte]
      by_cases z : o < 0
      · rw [if_pos z, if_pos z, fin 0 (Or.inl rfl)]; rfl
      · rw [if_neg z, if_neg z, fin 1 (Or.inr rfl)]; rfl
  · have a := r5.2.1 (by omega)
    have b := s5.2.1 (by omega)
    exact ⟨by omega, by rw [a.2, b.2]⟩
  · by_cases z1 : t + 1 + (E1 f c).1 ≤ 10000
    · have a := r5.2.1 z1
      exact s5.2.2 (by omega)
    · exact s6 (r5.2.2 (by omega))
end EVAL
