/-! RULES: the first one's numbers and conditions, by their height -/
section EVAG
variable {wI : (Nat → Nat → Int32) → (Nat → Nat → Int64) → Prop} {I0 : Nat → Nat → Int32} {L0 : Nat → Nat → Int64} {R : Nat → Nat → Int32} {V : Nat → Int64} {ln : Nat → Nat} {tq : Nat → Int × Int → Int × Int} {wd : Nat → Int × Int} {wo : Nat → Int × Int → Int × Int} {pa pb pu : Option Nat}
variable {nl nt : Nat} {wl : Nat → Nat} {sv : Nat → Nat × Int × Int}
/-- a number worked out by the first one -/
def numP (g : Nat) (wI : (Nat → Nat → Int32) → (Nat → Nat → Int64) → Prop) (I0 : Nat → Nat → Int32) (L0 : Nat → Nat → Int64) (pa pb pu : Option Nat) (E : Nat → (Nat → Int) → Nat × Int × Int) (h w s : Nat) (rho : Nat → Nat) (n : Nat) : Prop := ∀ f c t D d I L, w ≤ f → t + 2000 * h ≤ 1000000 → D + h ≤ 150 → 72 + 5 * h ≤ d → cSt wI I0 L0 s rho c t I L → ∃ I' L' t' q, jv d 147 0 [some (.ref 116), some (.int (nI n)), some (.int (nI D)), none] [] (shC, I, L, pX pa pb pu (some g)) = some (none, (shC, I', L', pX pa pb pu (some g))) ∧ cSt wI I0 L0 s rho c t' I' L' ∧ L' 116 6 = lI q.1 ∧ L' 116 7 = lI q.2 ∧ nSp t (E f c).1 (E f c).2 q (kH h) t' ∧ (10000 < t → t' = t)
def tSp (t N : Nat) (v p : Int) (K t' : Nat) : Prop := v3 v ∧ (t + N ≤ 10000 → t' = t + N ∧ v = p) ∧ (10000 < t + N → 10000 < t' ∧ (t' ≤ t + K ∨ t' ≤ 10000 + K))
def vI (v : Int) : Int32 := Int32.ofInt v
def truP (g : Nat) (wI : (Nat → Nat → Int32) → (Nat → Nat → Int64) → Prop) (I0 : Nat → Nat → Int32) (L0 : Nat → Nat → Int64) (pa pb pu : Option Nat) (E : Nat → (Nat → Int) → Nat × Int × Int) (h w s : Nat) (rho : Nat → Nat) (n : Nat) : Prop := ∀ f c t D d I L, w ≤ f → t + 2000 * h ≤ 1000000 → D + h ≤ 150 → 72 + 5 * h ≤ d → cSt wI I0 L0 s rho c t I L → ∃ I' L' t' v, jv d 144 0 [some (.ref 116), some (.int (nI n)), some (.int (nI D)), none] [] (shC, I, L, pX pa pb pu (some g)) = some (some (.int (vI v)), (shC, I', L', pX pa pb pu (some g))) ∧ cSt wI I0 L0 s rho c t' I' L' ∧ tSp t (E f c).1 v (E f c).2.1 (kH h) t' ∧ (10000 < t → t' = t)
theorem nSp.up {t N K K' t' : Nat} {p q : Int × Int} (h : nSp t N p q K t') (hk : K ≤ K') : nSp t N p q K' t' := ⟨h.1, h.2.1, fun z => ⟨(h.2.2 z).1, by have := (h.2.2 z).2; omega⟩⟩
theorem tSp.up {t N K K' t' : Nat} {v p : Int} (h : tSp t N v p K t') (hk : K ≤ K') : tSp t N v p K' t' := ⟨h.1, h.2.1, fun z => ⟨(h.2.2 z).1, by have := (h.2.2 z).2; omega⟩⟩
theorem nSp.le {t N K t' : Nat} {p q : Int × Int} (h : nSp t N p q K t') : t ≤ t' ∨ 10000 < t' := by
  by_cases z : t + N ≤ 10000
  · exact Or.inl (by have := (h.2.1 z).1; omega)
  · exact Or.inr (h.2.2 (by omega)).1
theorem nSp.bd {t N K t' : Nat} {p q : Int × Int} (h : nSp t N p q K t') : t' ≤ t + K ∨ t' ≤ 10000 + K := by
  by_cases z : t + N ≤ 10000
  · have := (h.2.1 z).1; omega
  · exact (h.2.2 (by omega)).2
theorem tSp.bd {t N K t' : Nat} {v p : Int} (h : tSp t N v p K t') : t' ≤ t + K ∨ t' ≤ 10000 + K := by
  by_cases z : t + N ≤ 10000
  · have := (h.2.1 z).1; omega
  · exact (h.2.2 (by omega)).2
/-- over once, over for good: a number read when over -/
theorem nSp.ov {t K : Nat} (p : Nat × Int × Int) (ht : 10000 < t) : nSp t p.1 p.2 (0, 0) K t := ⟨fN0, fun z => by omega, fun _ => ⟨ht, by omega⟩⟩
theorem tSp.ov {t K : Nat} (p : Nat × Int × Int) (ht : 10000 < t) : tSp t p.1 2 p.2.1 K t := ⟨Or.inr (Or.inr rfl), fun z => by omega, fun _ => ⟨ht, by omega⟩⟩
/-- two in a row, then one step and what is made of both -/
theorem nSp.two {t N1 N2 K t1 t2 : Nat} {p1 p2 q1 q2 P Q : Int × Int} {A : Nat} (h1 : nSp t N1 p1 q1 (K + A) t1) (h2 : nSp t1 N2 p2 q2 K t2) (over : 10000 < t1 → t2 = t1) (hQ : fN Q) (hPQ : q1 = p1 → q2 = p2 → Q = P) : nSp t (N1 + N2 + 1) P Q (K + A + 1) (t2 + 1) := by
  refine ⟨hQ, fun z => ?_, fun z => ?_⟩
  · have a := h1.2.1 (by omega)
    have b := h2.2.1 (by omega)
    exact ⟨by omega, hPQ a.2 b.2⟩
  · by_cases z1 : t + N1 ≤ 10000
    · have a := h1.2.1 z1
      by_cases z2 : t1 + N2 ≤ 10000
      · have b := h2.2.1 z2
        exact ⟨by omega, by omega⟩
      · have b := h2.2.2 (by omega)
        exact ⟨by omega, by omega⟩
    · have a := h1.2.2 (by omega)
      have b := over a.1
      exact ⟨by omega, by omega⟩
theorem tSp.two {t N1 N2 K t1 t2 : Nat} {p1 p2 q1 q2 P Q : Int} {A : Nat} (h1 : tSp t N1 q1 p1 (K + A) t1) (h2 : tSp t1 N2 q2 p2 K t2) (over : 10000 < t1 → t2 = t1) (hQ : v3 Q) (hPQ : q1 = p1 → q2 = p2 → Q = P) : tSp t (N1 + N2 + 1) Q P (K + A + 1) (t2 + 1) := by
  refine ⟨hQ, fun z => ?_, fun z => ?_⟩
  · have a := h1.2.1 (by omega)
    have b := h2.2.1 (by omega)
    exact ⟨by omega, hPQ a.2 b.2⟩
  · by_cases z1 : t + N1 ≤ 10000
    · have a := h1.2.1 z1
      by_cases z2 : t1 + N2 ≤ 10000
      · have b := h2.2.1 z2
        exact ⟨by omega, by omega⟩
      · have b := h2.2.2 (by omega)
        exact ⟨by omega, by omega⟩
    · have a := h1.2.2 (by omega)
      have b := over a.1
      exact ⟨by omega, by omega⟩
theorem cSt.cell {s : Nat} {rho : Nat → Nat} {c : Nat → Int} {t : Nat} {I : Nat → Nat → Int32} {L : Nat → Nat → Int64} (z : cSt wI I0 L0 s rho c t I L) {k : Nat} (hk : k < 60) : I k = I0 k := z.1 k (Or.inl hk) (by omega)
theorem nI_3 : ∀ v, v3 v → (vI v = 2 ↔ v = 2) ∧ (vI v = 1 ↔ v = 1) ∧ (vI v = 0 ↔ v = 0) := by
  intro v h
  rcases h with h | h | h <;> subst h <;> decide
/-- one link of a chain of numbers -/
theorem link_c38 {s h : Nat} {rho : Nat → Nat} {c : Nat → Int} (hW : wSt wI) {n2 last : Nat} {E : Nat → (Nat → Int) → Nat × Int × Int} {w' : Nat} (hs : numP 38 wI I0 L0 pa pb pu E h w' s rho n2) {I1 : Nat → Nat → Int32} {L1 : Nat → Nat → Int64} {f t1 D d n i : Nat} {q1 : Int × Int} (hf : w' ≤ f) (ht : t1 + 2000 * h ≤ 1000000) (hD : D + 1 + h ≤ 150) (hd : 73 + 5 * h ≤ d) (hc : cSt wI I0 L0 s rho c t1 I1 L1) (hq : fN q1) (h6 : L1 116 6 = lI q1.1) (h7 : L1 116 7 = lI q1.2) (hl : last < 1201) (hi : i < 1201) (ho : I0 41 last = nI n2) {k : Nat} (hk : k < 4) (hv : I0 43 last = opK k) (o5 o6 o7 o8 : Option Value) : ∃ I2 L2 t2 q2 o5' o6' o7' o8', jv d 149 21 [some (.ref 116), some (.int (nI n)), some (.int (nI D)), some (.int (nI last)), some (.int (nI i)), o5, o6, o7, o8] [] (shC, I1, L1, pX pa pb pu (some 38)) = jv d 149 21 [some (.ref 116), some (.int (nI n)), some (.int (nI D)), some (.int (I0 42 last)), some (.int (nI (i + 1))), o5', o6', o7', o8'] [] (shC, I2, fqC L2 (fA k q1.1 q1.2 q2.1 q2.2), pX pa pb pu (some 38)) ∧ cSt wI I0 L0 s rho c (t2 + 1) I2 (fqC L2 (fA k q1.1 q1.2 q2.1 q2.2)) ∧ nSp t1 (E f c).1 (E f c).2 q2 (kH h) t2 ∧ (10000 < t1 → t2 = t1) := by
  obtain ⟨d, rfl⟩ : ∃ d', d = d' + 3 := ⟨d - 3, by omega⟩
  obtain ⟨I2, L2, t2, q2, r1, r2, r3, r4, r5, r6⟩ := hs f c t1 (D + 1) (d + 2) I1 L1 hf ht hD (by omega) hc
  have c3 : I1 41 last = nI n2 := by rw [hc.cell (by decide)]; exact ho
  have st2 := (r2.tk hW (t2 + 1))
  have st3 := st2.fr hW (fA k q1.1 q1.2 q2.1 q2.2)
  refine ⟨j_up I2 116 8 (nI (t2 + 1)), L2, t2, q2, some (.long (lI q1.1)), none, some (.long (lI q1.2)), none, ?_, st3, r5, r6⟩
  have c5 : j_up I2 116 8 (nI (t2 + 1)) 43 last = opK k := by rw [st2.cell (by decide)]; exact hv
  have c4 : j_up I2 116 8 (nI (t2 + 1)) 42 last = I0 42 last := by rw [st2.cell (by decide)]
  rw [B149_21_g38, if_pos (show nI i < (1201 : Int32) from nI_lt (b := 1201) hi (by decide)), if_neg (nI_pos (by omega)), if_pos (j_in_nI hl (by decide)), nI_clamp (by omega), c3, show nI D + 1 = nI (D + 1) from nI_add D 1, jgo_some (d := d + 2) rfl r1, h6, h7]
  dsimp only [Option.toList_some, Option.toList_none, List.cons_append, List.nil_append]
  rw [B149_61_g38, if_pos (j_in_nI hl (by decide)), nI_clamp (by omega), r2.2.2.1, show nI t2 + 1 = nI (t2 + 1) from nI_add t2 1, c5, r3, r4, jgo_some (d := d + 2) rfl (act_c (d := d) hk hq.1 hq.d r5.1.1 r5.1.d)]
  dsimp only [Option.toList_some, Option.toList_none, List.cons_append, List.nil_append]
  rw [B149_96_g38, if_pos (j_in_nI hl (by decide)), nI_clamp (by omega), c4, show nI i + 1 = nI (i + 1) from nI_add i 1]
/-- a chain of numbers -/
theorem chain_c38 {s h : Nat} {rho : Nat → Nat} {c : Nat → Int} (hW : wSt wI) {m mt : Nat} (hs : ∀ w' n' k', w' ≤ 1200 → rel (fun c i => I0 (38 + 1 + c) i) R V m mt (wl m) h true w' s rho n' k' → numP 38 wI I0 L0 pa pb pu (fun f c => ev R V ln tq wd wo f true c k') h w' s rho n') : ∀ (j w n last k : Nat), chL (fun c i => I0 (38 + 1 + c) i) R 7 (fun w' n' k' => rel (fun c i => I0 (38 + 1 + c) i) R V m mt (wl m) h true w' s rho n' k') j w n last k → w ≤ 1200 → ∀ f t D d I L, w ≤ f → t ≤ 10000 → h ≤ 75 → D + 1 + h ≤ 150 → 75 + 5 * h ≤ d → cSt wI I0 L0 s rho c t I L → ∃ I' L' t' q o5 o6 o7 o8, jv d 149 0 [some (.ref 116), some (.int (nI n)), some (.int (nI D)), none, none, none, none, none, none] [] (shC, I, L, pX pa pb pu (some 38)) = jv d 149 21 [some (.ref 116), some (.int (nI n)), some (.int (nI D)), some (.int (I0 42 last)), some (.int (nI (j + 1))), o5, o6, o7, o8] [] (shC, I', L', pX pa pb pu (some 38)) ∧ cSt wI I0 L0 s rho c t' I' L' ∧ L' 116 6 = lI q.1 ∧ L' 116 7 = lI q.2 ∧ nSp t (ev R V ln tq wd wo f true c k).1 (ev R V ln tq wd wo f true c k).2 q (kH h + j + 1) t' ∧ j < w := by
  intro j
  induction j with
  | zero =>
    intro w n last k hc hw f t D d I L hf ht hh hD hd hst
    obtain ⟨a1, a2, a3, a4, a5, w', n1, k1, n2, k2, b1, b2, b3, b4, b5, b6, b7⟩ := hc
    obtain ⟨f, rfl⟩ : ∃ g, f = g + 1 := ⟨f - 1, by omega⟩
    obtain ⟨d, rfl⟩ : ∃ d', d = d' + 1 := ⟨d - 1, by omega⟩
    subst a1
    have c2 : I 40 last = nI n1 := by rw [hst.cell (by decide)]; exact b2
    obtain ⟨I1, L1, t1, q1, r1, r2, r3, r4, r5, r6⟩ := hs w' n1 k1 (by omega) b4 f c t (D + 1) d I L (by omega) (by omega) hD (by omega) hst
    have hk : ∃ kk, kk < 4 ∧ I0 43 last = opK kk ∧ (R 0 k = 12 ∨ R 0 k = 13 ∨ R 0 k = 14 ∨ R 0 k = 15) ∧ (if R 0 k = 12 then 0 else if R 0 k = 13 then 1 else if R 0 k = 14 then 2 else 3) = kk := by
      rcases a5 with ⟨_, op⟩ | ⟨op, _⟩ | ⟨op, _⟩
      · rcases op with ⟨o1, o2⟩ | ⟨o1, o2⟩ | ⟨o1, o2⟩ | ⟨o1, o2⟩
        · exact ⟨0, by decide, o1, by rw [o2]; decide, by rw [o2]; rfl⟩
        · exact ⟨1, by decide, o1, by rw [o2]; decide, by rw [o2]; rfl⟩
        · exact ⟨2, by decide, o1, by rw [o2]; decide, by rw [o2]; rfl⟩
        · exact ⟨3, by decide, o1, by rw [o2]; decide, by rw [o2]; rfl⟩
      · exact absurd op (by decide)
      · exact absurd op (by decide)
    obtain ⟨kk, k1', k2', k3', k4'⟩ := hk
    have t1b : t1 + 2000 * h ≤ 1000000 := by have := r5.bd; unfold kH at this; omega
    obtain ⟨I2, L2, t2, q2, o5, o6, o7, o8, s1, s2, s3, s4⟩ := link_c38 (n := last) (i := 0) (o5 := none) (o6 := none) (o7 := none) (o8 := none) hW (hs w' n2 k2 (by omega) b7) (f := f) (D := D) (d := d + 1) (by omega) t1b hD (by omega) r2 r5.1 r3 r4 a2 (by decide) b5 k1' k2'
    refine ⟨I2, _, t2 + 1, fA kk q1.1 q1.2 q2.1 q2.2, o5, o6, o7, o8, ?_, s2, by rw [fqC_6], by rw [fqC_7], ?_, by omega⟩
    · rw [B149_0_g38, if_pos (j_in_nI a2 (by decide)), nI_clamp (by omega), c2, show nI D + 1 = nI (D + 1) from nI_add D 1, jgo_some (d := d) rfl r1]
      dsimp only [Option.toList_some, Option.toList_none, List.cons_append, List.nil_append]
      rw [B149_16_g38]
      exact s1
    · rw [ev_t, if_neg (by rcases k3' with z | z | z | z <;> rw [z] <;> decide), if_neg (by rcases k3' with z | z | z | z <;> rw [z] <;> decide), if_neg (by rcases k3' with z | z | z | z <;> rw [z] <;> decide), if_neg (by rcases k3' with z | z | z | z <;> rw [z] <;> decide), if_neg (by rcases k3' with z | z | z | z <;> rw [z] <;> decide), if_neg (by rcases k3' with z | z | z | z <;> rw [z] <;> decide), if_neg (by rcases k3' with z | z | z | z <;> rw [z] <;> decide), if_neg (by rcases k3' with z | z | z | z <;> rw [z] <;> decide), if_pos k3', k4', nN b3 (rel_k b4).2, nN b6 (rel_k b7).2]
      exact nSp.two (A := 0) r5 s3 s4 (fA_b _ _ _ _ _) (fun z1 z2 => by rw [z1, z2])
  | succ j ih =>
    intro w n last k hc hw f t D d I L hf ht hh hD hd hst
    obtain ⟨a1, a2, a3, a5, w', l', k', n2, k2, b1, b2, b3, b4, b5, b6, b7⟩ := hc
    obtain ⟨f, rfl⟩ : ∃ g, f = g + 1 := ⟨f - 1, by omega⟩
    obtain ⟨I1, L1, t1, q1, p5, p6, p7, p8, r1, r2, r3, r4, r5, r6⟩ := ih w' n l' k' b2 (by omega) f t D d I L (by omega) ht hh hD hd hst
    have hk : ∃ kk, kk < 4 ∧ I0 43 last = opK kk ∧ (R 0 k = 12 ∨ R 0 k = 13 ∨ R 0 k = 14 ∨ R 0 k = 15) ∧ (if R 0 k = 12 then 0 else if R 0 k = 13 then 1 else if R 0 k = 14 then 2 else 3) = kk := by
      rcases a5 with ⟨_, op⟩ | ⟨op, _⟩ | ⟨op, _⟩
      · rcases op with ⟨o1, o2⟩ | ⟨o1, o2⟩ | ⟨o1, o2⟩ | ⟨o1, o2⟩
        · exact ⟨0, by decide, o1, by rw [o2]; decide, by rw [o2]; rfl⟩
        · exact ⟨1, by decide, o1, by rw [o2]; decide, by rw [o2]; rfl⟩
        · exact ⟨2, by decide, o1, by rw [o2]; decide, by rw [o2]; rfl⟩
        · exact ⟨3, by decide, o1, by rw [o2]; decide, by rw [o2]; rfl⟩
      · exact absurd op (by decide)
      · exact absurd op (by decide)
    obtain ⟨kk, k1', k2', k3', k4'⟩ := hk
    have t1b : t1 + 2000 * h ≤ 1000000 := by have := r5.bd; unfold kH at this; omega
    have l4 : I0 42 l' = nI last := b3
    obtain ⟨I2, L2, t2, q2, o5, o6, o7, o8, s1, s2, s3, s4⟩ := link_c38 (n := n) (i := j + 1) (o5 := p5) (o6 := p6) (o7 := p7) (o8 := p8) hW (hs w' n2 k2 (by omega) b7) (f := f) (D := D) (d := d) (by omega) t1b hD (by omega) r2 r5.1 r3 r4 a1 (by omega) b5 k1' k2'
    refine ⟨I2, _, t2 + 1, fA kk q1.1 q1.2 q2.1 q2.2, o5, o6, o7, o8, ?_, s2, by rw [fqC_6], by rw [fqC_7], ?_, by omega⟩
    · rw [r1, l4]
      exact s1
    · rw [ev_t, if_neg (by rcases k3' with z | z | z | z <;> rw [z] <;> decide), if_neg (by rcases k3' with z | z | z | z <;> rw [z] <;> decide), if_neg (by rcases k3' with z | z | z | z <;> rw [z] <;> decide), if_neg (by rcases k3' with z | z | z | z <;> rw [z] <;> decide), if_neg (by rcases k3' with z | z | z | z <;> rw [z] <;> decide), if_neg (by rcases k3' with z | z | z | z <;> rw [z] <;> decide), if_neg (by rcases k3' with z | z | z | z <;> rw [z] <;> decide), if_neg (by rcases k3' with z | z | z | z <;> rw [z] <;> decide), if_pos k3', k4', nN b4 (chL_n _ _ _ _ _ b2).2, nN b6 (rel_k b7).2]
      exact nSp.two (A := j + 1) r5 s3 s4 (fA_b _ _ _ _ _) (fun z1 z2 => by rw [z1, z2])
/-- one link of a chain of numbers -/
theorem link_c49 {s h : Nat} {rho : Nat → Nat} {c : Nat → Int} (hW : wSt wI) {n2 last : Nat} {E : Nat → (Nat → Int) → Nat × Int × Int} {w' : Nat} (hs : numP 49 wI I0 L0 pa pb pu E h w' s rho n2) {I1 : Nat → Nat → Int32} {L1 : Nat → Nat → Int64} {f t1 D d n i : Nat} {q1 : Int × Int} (hf : w' ≤ f) (ht : t1 + 2000 * h ≤ 1000000) (hD : D + 1 + h ≤ 150) (hd : 73 + 5 * h ≤ d) (hc : cSt wI I0 L0 s rho c t1 I1 L1) (hq : fN q1) (h6 : L1 116 6 = lI q1.1) (h7 : L1 116 7 = lI q1.2) (hl : last < 1201) (hi : i < 1201) (ho : I0 52 last = nI n2) {k : Nat} (hk : k < 4) (hv : I0 54 last = opK k) (o5 o6 o7 o8 : Option Value) : ∃ I2 L2 t2 q2 o5' o6' o7' o8', jv d 149 21 [some (.ref 116), some (.int (nI n)), some (.int (nI D)), some (.int (nI last)), some (.int (nI i)), o5, o6, o7, o8] [] (shC, I1, L1, pX pa pb pu (some 49)) = jv d 149 21 [some (.ref 116), some (.int (nI n)), some (.int (nI D)), some (.int (I0 53 last)), some (.int (nI (i + 1))), o5', o6', o7', o8'] [] (shC, I2, fqC L2 (fA k q1.1 q1.2 q2.1 q2.2), pX pa pb pu (some 49)) ∧ cSt wI I0 L0 s rho c (t2 + 1) I2 (fqC L2 (fA k q1.1 q1.2 q2.1 q2.2)) ∧ nSp t1 (E f c).1 (E f c).2 q2 (kH h) t2 ∧ (10000 < t1 → t2 = t1) := by
  obtain ⟨d, rfl⟩ : ∃ d', d = d' + 3 := ⟨d - 3, by omega⟩
  obtain ⟨I2, L2, t2, q2, r1, r2, r3, r4, r5, r6⟩ := hs f c t1 (D + 1) (d + 2) I1 L1 hf ht hD (by omega) hc
  have c3 : I1 52 last = nI n2 := by rw [hc.cell (by decide)]; exact ho
  have st2 := (r2.tk hW (t2 + 1))
  have st3 := st2.fr hW (fA k q1.1 q1.2 q2.1 q2.2)
  refine ⟨j_up I2 116 8 (nI (t2 + 1)), L2, t2, q2, some (.long (lI q1.1)), none, some (.long (lI q1.2)), none, ?_, st3, r5, r6⟩
  have c5 : j_up I2 116 8 (nI (t2 + 1)) 54 last = opK k := by rw [st2.cell (by decide)]; exact hv
  have c4 : j_up I2 116 8 (nI (t2 + 1)) 53 last = I0 53 last := by rw [st2.cell (by decide)]
  rw [B149_21_g49, if_pos (show nI i < (1201 : Int32) from nI_lt (b := 1201) hi (by decide)), if_neg (nI_pos (by omega)), if_pos (j_in_nI hl (by decide)), nI_clamp (by omega), c3, show nI D + 1 = nI (D + 1) from nI_add D 1, jgo_some (d := d + 2) rfl r1, h6, h7]
  dsimp only [Option.toList_some, Option.toList_none, List.cons_append, List.nil_append]
  rw [B149_61_g49, if_pos (j_in_nI hl (by decide)), nI_clamp (by omega), r2.2.2.1, show nI t2 + 1 = nI (t2 + 1) from nI_add t2 1, c5, r3, r4, jgo_some (d := d + 2) rfl (act_c (d := d) hk hq.1 hq.d r5.1.1 r5.1.d)]
  dsimp only [Option.toList_some, Option.toList_none, List.cons_append, List.nil_append]
  rw [B149_96_g49, if_pos (j_in_nI hl (by decide)), nI_clamp (by omega), c4, show nI i + 1 = nI (i + 1) from nI_add i 1]
/-- a chain of numbers -/
theorem chain_c49 {s h : Nat} {rho : Nat → Nat} {c : Nat → Int} (hW : wSt wI) {m mt : Nat} (hs : ∀ w' n' k', w' ≤ 1200 → rel (fun c i => I0 (49 + 1 + c) i) R V m mt (wl m) h true w' s rho n' k' → numP 49 wI I0 L0 pa pb pu (fun f c => ev R V ln tq wd wo f true c k') h w' s rho n') : ∀ (j w n last k : Nat), chL (fun c i => I0 (49 + 1 + c) i) R 7 (fun w' n' k' => rel (fun c i => I0 (49 + 1 + c) i) R V m mt (wl m) h true w' s rho n' k') j w n last k → w ≤ 1200 → ∀ f t D d I L, w ≤ f → t ≤ 10000 → h ≤ 75 → D + 1 + h ≤ 150 → 75 + 5 * h ≤ d → cSt wI I0 L0 s rho c t I L → ∃ I' L' t' q o5 o6 o7 o8, jv d 149 0 [some (.ref 116), some (.int (nI n)), some (.int (nI D)), none, none, none, none, none, none] [] (shC, I, L, pX pa pb pu (some 49)) = jv d 149 21 [some (.ref 116), some (.int (nI n)), some (.int (nI D)), some (.int (I0 53 last)), some (.int (nI (j + 1))), o5, o6, o7, o8] [] (shC, I', L', pX pa pb pu (some 49)) ∧ cSt wI I0 L0 s rho c t' I' L' ∧ L' 116 6 = lI q.1 ∧ L' 116 7 = lI q.2 ∧ nSp t (ev R V ln tq wd wo f true c k).1 (ev R V ln tq wd wo f true c k).2 q (kH h + j + 1) t' ∧ j < w := by
  intro j
  induction j with
  | zero =>
    intro w n last k hc hw f t D d I L hf ht hh hD hd hst
    obtain ⟨a1, a2, a3, a4, a5, w', n1, k1, n2, k2, b1, b2, b3, b4, b5, b6, b7⟩ := hc
    obtain ⟨f, rfl⟩ : ∃ g, f = g + 1 := ⟨f - 1, by omega⟩
    obtain ⟨d, rfl⟩ : ∃ d', d = d' + 1 := ⟨d - 1, by omega⟩
    subst a1
    have c2 : I 51 last = nI n1 := by rw [hst.cell (by decide)]; exact b2
    obtain ⟨I1, L1, t1, q1, r1, r2, r3, r4, r5, r6⟩ := hs w' n1 k1 (by omega) b4 f c t (D + 1) d I L (by omega) (by omega) hD (by omega) hst
    have hk : ∃ kk, kk < 4 ∧ I0 54 last = opK kk ∧ (R 0 k = 12 ∨ R 0 k = 13 ∨ R 0 k = 14 ∨ R 0 k = 15) ∧ (if R 0 k = 12 then 0 else if R 0 k = 13 then 1 else if R 0 k = 14 then 2 else 3) = kk := by
      rcases a5 with ⟨_, op⟩ | ⟨op, _⟩ | ⟨op, _⟩
      · rcases op with ⟨o1, o2⟩ | ⟨o1, o2⟩ | ⟨o1, o2⟩ | ⟨o1, o2⟩
        · exact ⟨0, by decide, o1, by rw [o2]; decide, by rw [o2]; rfl⟩
        · exact ⟨1, by decide, o1, by rw [o2]; decide, by rw [o2]; rfl⟩
        · exact ⟨2, by decide, o1, by rw [o2]; decide, by rw [o2]; rfl⟩
        · exact ⟨3, by decide, o1, by rw [o2]; decide, by rw [o2]; rfl⟩
      · exact absurd op (by decide)
      · exact absurd op (by decide)
    obtain ⟨kk, k1', k2', k3', k4'⟩ := hk
    have t1b : t1 + 2000 * h ≤ 1000000 := by have := r5.bd; unfold kH at this; omega
    obtain ⟨I2, L2, t2, q2, o5, o6, o7, o8, s1, s2, s3, s4⟩ := link_c49 (n := last) (i := 0) (o5 := none) (o6 := none) (o7 := none) (o8 := none) hW (hs w' n2 k2 (by omega) b7) (f := f) (D := D) (d := d + 1) (by omega) t1b hD (by omega) r2 r5.1 r3 r4 a2 (by decide) b5 k1' k2'
    refine ⟨I2, _, t2 + 1, fA kk q1.1 q1.2 q2.1 q2.2, o5, o6, o7, o8, ?_, s2, by rw [fqC_6], by rw [fqC_7], ?_, by omega⟩
    · rw [B149_0_g49, if_pos (j_in_nI a2 (by decide)), nI_clamp (by omega), c2, show nI D + 1 = nI (D + 1) from nI_add D 1, jgo_some (d := d) rfl r1]
      dsimp only [Option.toList_some, Option.toList_none, List.cons_append, List.nil_append]
      rw [B149_16_g49]
      exact s1
    · rw [ev_t, if_neg (by rcases k3' with z | z | z | z <;> rw [z] <;> decide), if_neg (by rcases k3' with z | z | z | z <;> rw [z] <;> decide), if_neg (by rcases k3' with z | z | z | z <;> rw [z] <;> decide), if_neg (by rcases k3' with z | z | z | z <;> rw [z] <;> decide), if_neg (by rcases k3' with z | z | z | z <;> rw [z] <;> decide), if_neg (by rcases k3' with z | z | z | z <;> rw [z] <;> decide), if_neg (by rcases k3' with z | z | z | z <;> rw [z] <;> decide), if_neg (by rcases k3' with z | z | z | z <;> rw [z] <;> decide), if_pos k3', k4', nN b3 (rel_k b4).2, nN b6 (rel_k b7).2]
      exact nSp.two (A := 0) r5 s3 s4 (fA_b _ _ _ _ _) (fun z1 z2 => by rw [z1, z2])
  | succ j ih =>
    intro w n last k hc hw f t D d I L hf ht hh hD hd hst
    obtain ⟨a1, a2, a3, a5, w', l', k', n2, k2, b1, b2, b3, b4, b5, b6, b7⟩ := hc
    obtain ⟨f, rfl⟩ : ∃ g, f = g + 1 := ⟨f - 1, by omega⟩
    obtain ⟨I1, L1, t1, q1, p5, p6, p7, p8, r1, r2, r3, r4, r5, r6⟩ := ih w' n l' k' b2 (by omega) f t D d I L (by omega) ht hh hD hd hst
    have hk : ∃ kk, kk < 4 ∧ I0 54 last = opK kk ∧ (R 0 k = 12 ∨ R 0 k = 13 ∨ R 0 k = 14 ∨ R 0 k = 15) ∧ (if R 0 k = 12 then 0 else if R 0 k = 13 then 1 else if R 0 k = 14 then 2 else 3) = kk := by
      rcases a5 with ⟨_, op⟩ | ⟨op, _⟩ | ⟨op, _⟩
      · rcases op with ⟨o1, o2⟩ | ⟨o1, o2⟩ | ⟨o1, o2⟩ | ⟨o1, o2⟩
        · exact ⟨0, by decide, o1, by rw [o2]; decide, by rw [o2]; rfl⟩
        · exact ⟨1, by decide, o1, by rw [o2]; decide, by rw [o2]; rfl⟩
        · exact ⟨2, by decide, o1, by rw [o2]; decide, by rw [o2]; rfl⟩
        · exact ⟨3, by decide, o1, by rw [o2]; decide, by rw [o2]; rfl⟩
      · exact absurd op (by decide)
      · exact absurd op (by decide)
    obtain ⟨kk, k1', k2', k3', k4'⟩ := hk
    have t1b : t1 + 2000 * h ≤ 1000000 := by have := r5.bd; unfold kH at this; omega
    have l4 : I0 53 l' = nI last := b3
    obtain ⟨I2, L2, t2, q2, o5, o6, o7, o8, s1, s2, s3, s4⟩ := link_c49 (n := n) (i := j + 1) (o5 := p5) (o6 := p6) (o7 := p7) (o8 := p8) hW (hs w' n2 k2 (by omega) b7) (f := f) (D := D) (d := d) (by omega) t1b hD (by omega) r2 r5.1 r3 r4 a1 (by omega) b5 k1' k2'
    refine ⟨I2, _, t2 + 1, fA kk q1.1 q1.2 q2.1 q2.2, o5, o6, o7, o8, ?_, s2, by rw [fqC_6], by rw [fqC_7], ?_, by omega⟩
    · rw [r1, l4]
      exact s1
    · rw [ev_t, if_neg (by rcases k3' with z | z | z | z <;> rw [z] <;> decide), if_neg (by rcases k3' with z | z | z | z <;> rw [z] <;> decide), if_neg (by rcases k3' with z | z | z | z <;> rw [z] <;> decide), if_neg (by rcases k3' with z | z | z | z <;> rw [z] <;> decide), if_neg (by rcases k3' with z | z | z | z <;> rw [z] <;> decide), if_neg (by rcases k3' with z | z | z | z <;> rw [z] <;> decide), if_neg (by rcases k3' with z | z | z | z <;> rw [z] <;> decide), if_neg (by rcases k3' with z | z | z | z <;> rw [z] <;> decide), if_pos k3', k4', nN b4 (chL_n _ _ _ _ _ b2).2, nN b6 (rel_k b7).2]
      exact nSp.two (A := j + 1) r5 s3 s4 (fA_b _ _ _ _ _) (fun z1 z2 => by rw [z1, z2])
end EVAG
