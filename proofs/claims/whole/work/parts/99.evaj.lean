/-! RULES: the first one works out everything -/
section EVAJ
variable {wI : (Nat → Nat → Int32) → (Nat → Nat → Int64) → Prop} {I0 : Nat → Nat → Int32} {L0 : Nat → Nat → Int64} {R : Nat → Nat → Int32} {V : Nat → Int64} {ln : Nat → Nat} {tq : Nat → Int × Int → Int × Int} {wd : Nat → Int × Int} {wo : Nat → Int × Int → Int × Int} {pa pb pu : Option Nat}
variable {nl nt : Nat} {wl : Nat → Nat}
theorem nSp.one {t K : Nat} {p : Int × Int} (hp : fN p) (ht : t ≤ 10000) (hK : 1 ≤ K) : nSp t 1 p p K (t + 1) := ⟨hp, fun _ => ⟨rfl, rfl⟩, fun z => ⟨by omega, by omega⟩⟩
/-- one more step behind a number -/
theorem nSp.inc {t N K t1 : Nat} {p q P Q : Int × Int} (h : nSp t N p q K t1) (hQ : fN Q) (hPQ : q = p → Q = P) : nSp t (N + 1) P Q (K + 1) (t1 + 1) := by
  refine ⟨hQ, fun z => ?_, fun z => ?_⟩
  · have a := h.2.1 (by omega); exact ⟨by omega, hPQ a.2⟩
  · by_cases z1 : t + N ≤ 10000
    · have a := h.2.1 z1; exact ⟨by omega, by omega⟩
    · have a := h.2.2 (by omega); exact ⟨by omega, by omega⟩
/-- one step ahead of a number -/
theorem nSp.pre {t N K t1 : Nat} {p q : Int × Int} (h : nSp (t + 1) N p q K t1) (hK : 1 ≤ K) : nSp t (N + 1) p q (K + 1) t1 := by
  refine ⟨h.1, fun z => ?_, fun z => ?_⟩
  · have a := h.2.1 (by omega); exact ⟨by omega, a.2⟩
  · have a := h.2.2 (by omega); exact ⟨by omega, by omega⟩
/-- a choice -/
theorem choice_c38 {s h n n1 n2 n3 w' : Nat} {rho : Nat → Nat} {c : Nat → Int} (hW : wSt wI) {E1 E2 E3 : Nat → (Nat → Int) → Nat × Int × Int} (hs1 : truP 38 wI I0 L0 pa pb pu E1 h w' s rho n1) (hs2 : numP 38 wI I0 L0 pa pb pu E2 h w' s rho n2) (hs3 : numP 38 wI I0 L0 pa pb pu E3 h w' s rho n3) (e1 : I0 40 n = nI n1) (e2 : I0 41 n = nI n2) (e3 : I0 42 n = nI n3) (hn : n < 1201) {f t D d : Nat} {I : Nat → Nat → Int32} {L : Nat → Nat → Int64} (hf : w' ≤ f) (ht : t ≤ 10000) (hh : h ≤ 75) (hD : D + 1 + h ≤ 150) (hd : 75 + 5 * h ≤ d) (hst : cSt wI I0 L0 s rho c t I L) : ∃ I' L' t' q, jv d 150 0 [some (.ref 116), some (.int (nI n)), some (.int (nI D)), none] [] (shC, I, L, pX pa pb pu (some 38)) = some (none, (shC, I', L', pX pa pb pu (some 38))) ∧ cSt wI I0 L0 s rho c t' I' L' ∧ L' 116 6 = lI q.1 ∧ L' 116 7 = lI q.2 ∧ nSp t (if (E1 f c).2.1 = 2 then ((E1 f c).1 + 1, 0, 0) else if (E1 f c).2.1 = 1 then ((E1 f c).1 + (E2 f c).1 + 1, (E2 f c).2) else ((E1 f c).1 + (E3 f c).1 + 1, (E3 f c).2) : Nat × Int × Int).1 (if (E1 f c).2.1 = 2 then ((E1 f c).1 + 1, 0, 0) else if (E1 f c).2.1 = 1 then ((E1 f c).1 + (E2 f c).1 + 1, (E2 f c).2) else ((E1 f c).1 + (E3 f c).1 + 1, (E3 f c).2) : Nat × Int × Int).2 q (kH h + 1300) t' := by
  obtain ⟨d, rfl⟩ : ∃ d', d = d' + 1 := ⟨d - 1, by omega⟩
  have st0 := hst.tk hW (t + 1)
  have c2 : j_up I 116 8 (nI (t + 1)) 40 n = nI n1 := by rw [st0.cell (by decide)]; exact e1
  obtain ⟨I1, L1, t1, v, r1, r2, r5, r6⟩ := hs1 f c (t + 1) (D + 1) d _ L hf (by omega) hD (by omega) st0
  have st1 := r2.fr hW (0, 0)
  have t1b : t1 + 2000 * h ≤ 1000000 := by have := r5.bd; unfold kH at this; omega
  have v3' := r5.1
  have k3 := nI_3 v v3'
  have s0 : jv (d + 1) 150 0 [some (.ref 116), some (.int (nI n)), some (.int (nI D)), none] [] (shC, I, L, pX pa pb pu (some 38)) = jv (d + 1) 150 31 [some (.ref 116), some (.int (nI n)), some (.int (nI D)), some (.int (vI v))] [] (shC, I1, fqC L1 (0, 0), pX pa pb pu (some 38)) := by
    rw [B150_0_g38, if_pos (j_in_nI hn (by decide)), nI_clamp (by omega), hst.2.2.1, show nI t + 1 = nI (t + 1) from nI_add t 1, c2, show nI D + 1 = nI (D + 1) from nI_add D 1, jgo_some (d := d) rfl r1]
    dsimp only [Option.toList_some, Option.toList_none, List.cons_append, List.nil_append]
    rw [B150_26_g38, jgo_some (d := d) rfl und_c]
    rfl
  have tail : ∀ (nn : Nat) (E : Nat → (Nat → Int) → Nat × Int × Int), numP 38 wI I0 L0 pa pb pu E h w' s rho nn → ∃ I' L' t' q, jv (d + 1) 150 63 [some (.ref 116), some (.int (nI n)), some (.int (nI D)), some (.int (vI v))] [.int (nI nn), .ref 116] (shC, I1, fqC L1 (0, 0), pX pa pb pu (some 38)) = some (none, (shC, I', L', pX pa pb pu (some 38))) ∧ cSt wI I0 L0 s rho c t' I' L' ∧ L' 116 6 = lI q.1 ∧ L' 116 7 = lI q.2 ∧ nSp t1 (E f c).1 (E f c).2 q (kH h) t' ∧ (10000 < t1 → t' = t1) := by
    intro nn E hs
    obtain ⟨I2, L2, t2, q2, s1, s2, s3, s4, s5, s6⟩ := hs f c t1 (D + 1) d I1 _ hf t1b hD (by omega) st1
    refine ⟨I2, L2, t2, q2, ?_, s2, s3, s4, s5, s6⟩
    rw [B150_63_g38, show nI D + 1 = nI (D + 1) from nI_add D 1, jgo_some (d := d) rfl s1]
    dsimp only [Option.toList_some, Option.toList_none, List.cons_append, List.nil_append]
    rw [B150_69_g38]
  rw [s0, B150_31_g38]
  by_cases z2 : v = 2
  · refine ⟨I1, fqC L1 (0, 0), t1, (0, 0), ?_, st1, by rw [fqC_6], by rw [fqC_7], fN0, fun z => ?_, fun z => ?_⟩
    · rw [if_pos (k3.1.mpr z2), B150_69_g38]
    · by_cases y : t + 1 + (E1 f c).1 ≤ 10000
      · have a := r5.2.1 y
        rw [if_pos (by rw [← a.2]; exact z2)] at z ⊢
        exact ⟨by have := a.1; show t1 = t + ((E1 f c).1 + 1); omega, rfl⟩
      · exfalso
        have : (E1 f c).1 + 1 ≤ (if (E1 f c).2.1 = 2 then ((E1 f c).1 + 1, 0, 0) else if (E1 f c).2.1 = 1 then ((E1 f c).1 + (E2 f c).1 + 1, (E2 f c).2) else ((E1 f c).1 + (E3 f c).1 + 1, (E3 f c).2) : Nat × Int × Int).1 := by
          by_cases y1 : (E1 f c).2.1 = 2
          · rw [if_pos y1]; exact Nat.le_refl _
          · rw [if_neg y1]
            by_cases y2 : (E1 f c).2.1 = 1
            · rw [if_pos y2]; show _ ≤ (E1 f c).1 + (E2 f c).1 + 1; omega
            · rw [if_neg y2]; show _ ≤ (E1 f c).1 + (E3 f c).1 + 1; omega
        omega
    · by_cases y : t + 1 + (E1 f c).1 ≤ 10000
      · have a := r5.2.1 y
        rw [if_pos (by rw [← a.2]; exact z2)] at z
        exact absurd z (by show ¬ 10000 < t + ((E1 f c).1 + 1); omega)
      · have a := r5.2.2 (by omega)
        exact ⟨a.1, by omega⟩
  · rw [if_neg (fun y => z2 (k3.1.mp y))]
    -- one of the two is worked out
    have pick : ∃ (nn : Nat) (E : Nat → (Nat → Int) → Nat × Int × Int), numP 38 wI I0 L0 pa pb pu E h w' s rho nn ∧ (if vI v = 1 then if j_in (nI n) 1201 = true then jv (d + 1) 150 63 [some (.ref 116), some (.int (nI n)), some (.int (nI D)), some (.int (vI v))] [.int (I1 41 (nI n).toNatClampNeg), .ref 116] (shC, I1, fqC L1 (0, 0), pX pa pb pu (some 38)) else none else if j_in (nI n) 1201 = true then jv (d + 1) 150 63 [some (.ref 116), some (.int (nI n)), some (.int (nI D)), some (.int (vI v))] [.int (I1 42 (nI n).toNatClampNeg), .ref 116] (shC, I1, fqC L1 (0, 0), pX pa pb pu (some 38)) else none) = jv (d + 1) 150 63 [some (.ref 116), some (.int (nI n)), some (.int (nI D)), some (.int (vI v))] [.int (nI nn), .ref 116] (shC, I1, fqC L1 (0, 0), pX pa pb pu (some 38)) ∧ (v = (E1 f c).2.1 → (if (E1 f c).2.1 = 2 then ((E1 f c).1 + 1, 0, 0) else if (E1 f c).2.1 = 1 then ((E1 f c).1 + (E2 f c).1 + 1, (E2 f c).2) else ((E1 f c).1 + (E3 f c).1 + 1, (E3 f c).2) : Nat × Int × Int) = ((E1 f c).1 + (E f c).1 + 1, (E f c).2)) := by
      by_cases z1 : v = 1
      · refine ⟨n2, E2, hs2, ?_, fun y => ?_⟩
        · rw [if_pos (k3.2.1.mpr z1), if_pos (j_in_nI hn (by decide)), nI_clamp (by omega), r2.cell (by decide), e2]
        · rw [← y, if_neg z2, if_pos z1]
      · refine ⟨n3, E3, hs3, ?_, fun y => ?_⟩
        · rw [if_neg (fun y => z1 (k3.2.1.mp y)), if_pos (j_in_nI hn (by decide)), nI_clamp (by omega), r2.cell (by decide), e3]
        · rw [← y, if_neg z2, if_neg z1]
    obtain ⟨nn, E, hs, p1, p2⟩ := pick
    obtain ⟨I2, L2, t2, q2, s1, s2, s3, s4, s5, s6⟩ := tail nn E hs
    refine ⟨I2, L2, t2, q2, by rw [p1, s1], s2, s3, s4, s5.1, fun z => ?_, fun z => ?_⟩
    · by_cases y : t + 1 + (E1 f c).1 ≤ 10000
      · have a := r5.2.1 y
        rw [p2 a.2] at z ⊢
        have b := s5.2.1 (by have : t + ((E1 f c).1 + (E f c).1 + 1) ≤ 10000 := z; omega)
        exact ⟨by show t2 = t + ((E1 f c).1 + (E f c).1 + 1); omega, b.2⟩
      · exfalso
        have : (E1 f c).1 + 1 ≤ (if (E1 f c).2.1 = 2 then ((E1 f c).1 + 1, 0, 0) else if (E1 f c).2.1 = 1 then ((E1 f c).1 + (E2 f c).1 + 1, (E2 f c).2) else ((E1 f c).1 + (E3 f c).1 + 1, (E3 f c).2) : Nat × Int × Int).1 := by
          by_cases y1 : (E1 f c).2.1 = 2
          · rw [if_pos y1]; exact Nat.le_refl _
          · rw [if_neg y1]
            by_cases y2 : (E1 f c).2.1 = 1
            · rw [if_pos y2]; show _ ≤ (E1 f c).1 + (E2 f c).1 + 1; omega
            · rw [if_neg y2]; show _ ≤ (E1 f c).1 + (E3 f c).1 + 1; omega
        omega
    · by_cases y : t + 1 + (E1 f c).1 ≤ 10000
      · have a := r5.2.1 y
        rw [p2 a.2] at z
        have z : 10000 < t + ((E1 f c).1 + (E f c).1 + 1) := z
        have b := s5.2.2 (by omega)
        exact ⟨b.1, by omega⟩
      · have a := r5.2.2 (by omega)
        have b := s6 a.1
        exact ⟨by omega, by omega⟩
/-- a series -/
theorem series_c38 {s h n n1 n2 n3 k kind w' : Nat} {rho : Nat → Nat} {c : Nat → Int} (hW : wSt wI) {E1 E2 E3 : Nat → (Nat → Int) → Nat × Int × Int} (hs1 : numP 38 wI I0 L0 pa pb pu E1 h w' s rho n1) (hs2 : numP 38 wI I0 L0 pa pb pu E2 h w' s rho n2) (hs3 : numP 38 wI I0 L0 pa pb pu E3 h w' (s + 1) (upN rho s k) n3) (hne : ∀ j, j < s → rho j ≠ k) (hs24 : s < 24) (e0 : I0 39 n = nI (9 + kind)) (hk : kind < 3) (e1 : I0 40 n = nI n1) (e2 : I0 41 n = nI n2) (e3 : I0 42 n = nI n3) (e5 : I0 43 n = nI s) (hn : n < 1201) {f t D d : Nat} {I : Nat → Nat → Int32} {L : Nat → Nat → Int64} (hf : w' ≤ f) (ht : t ≤ 10000) (hh : h ≤ 75) (hD : D + 1 + h ≤ 150) (hd : 76 + 5 * h ≤ d) (hst : cSt wI I0 L0 s rho c t I L) : ∃ I' L' t' q, jv d 151 0 [some (.ref 116), some (.int (nI n)), some (.int (nI D)), none, none, none, none, none, none, none, none, none, none, none] [] (shC, I, L, pX pa pb pu (some 38)) = some (none, (shC, I', L', pX pa pb pu (some 38))) ∧ cSt wI I0 L0 s rho c t' I' L' ∧ L' 116 6 = lI q.1 ∧ L' 116 7 = lI q.2 ∧ nSp t (if (E1 f c).2.2 = 1 ∧ (E2 f c).2.2 = 1 ∧ (E2 f c).2.1 - (E1 f c).2.1 < 64 then ((E1 f c).1 + (E2 f c).1 + 1 + (srd (fun v => E3 f (upZ c k v)) kind (E1 f c).2.1 ((E2 f c).2.1 - (E1 f c).2.1 + 1).toNat).1, (srd (fun v => E3 f (upZ c k v)) kind (E1 f c).2.1 ((E2 f c).2.1 - (E1 f c).2.1 + 1).toNat).2) else ((E1 f c).1 + (E2 f c).1 + 1, 0, 0) : Nat × Int × Int).1 (if (E1 f c).2.2 = 1 ∧ (E2 f c).2.2 = 1 ∧ (E2 f c).2.1 - (E1 f c).2.1 < 64 then ((E1 f c).1 + (E2 f c).1 + 1 + (srd (fun v => E3 f (upZ c k v)) kind (E1 f c).2.1 ((E2 f c).2.1 - (E1 f c).2.1 + 1).toNat).1, (srd (fun v => E3 f (upZ c k v)) kind (E1 f c).2.1 ((E2 f c).2.1 - (E1 f c).2.1 + 1).toNat).2) else ((E1 f c).1 + (E2 f c).1 + 1, 0, 0) : Nat × Int × Int).2 q (kH h + 1300) t' := by
  obtain ⟨d, rfl⟩ : ∃ d', d = d' + 1 := ⟨d - 1, by omega⟩
  have hH : HG = 1000000000000000000 := rfl
  have st0 := hst.tk hW (t + 1)
  have c2 : j_up I 116 8 (nI (t + 1)) 40 n = nI n1 := by rw [st0.cell (by decide)]; exact e1
  obtain ⟨I1, L1, t1, q1, r1, r2, r3, r4, r5, r6⟩ := hs1 f c (t + 1) (D + 1) d _ L hf (by omega) hD (by omega) st0
  have t1b : t1 + 2000 * h ≤ 1000000 := by have := r5.bd; unfold kH at this; omega
  have c3 : I1 41 n = nI n2 := by rw [r2.cell (by decide)]; exact e2
  obtain ⟨I2, L2, t2, q2, s1, s2, s3, s4, s5, s6⟩ := hs2 f c t1 (D + 1) d I1 L1 hf t1b hD (by omega) r2
  have st2 := s2.fr hW (0, 0)
  have c1 : I2 39 n = nI (9 + kind) := by rw [s2.cell (by decide)]; exact e0
  have is1 : ∀ q : Int × Int, fN q → (lg_cmp (lI q.2) 1 = 0 ↔ q.2 = 1) := fun q hq => by
    rw [lcmp_e]
    constructor
    · intro z; have := hq.d.i; rw [z] at this; exact this.symm
    · intro z; rw [z]; rfl
  have whole : (if q1.2 = 1 ∧ q2.2 = 1 then (1 : Int32) else 0) = (if q1.2 = 1 ∧ q2.2 = 1 then 1 else 0) := rfl
  have s0 : jv (d + 1) 151 0 [some (.ref 116), some (.int (nI n)), some (.int (nI D)), none, none, none, none, none, none, none, none, none, none, none] [] (shC, I, L, pX pa pb pu (some 38)) = jv (d + 1) 151 94 [some (.ref 116), some (.int (nI n)), some (.int (nI D)), some (.long (lI q1.1)), none, some (.int (if q1.2 = 1 ∧ q2.2 = 1 then 1 else 0)), some (.long (lI q2.1)), none, none, none, none, none, none, none] [] (shC, I2, fqC L2 (0, 0), pX pa pb pu (some 38)) := by
    have step2 : ∀ x : Int32, x = (if q1.2 = 1 then 1 else 0) → jv (d + 1) 151 45 [some (.ref 116), some (.int (nI n)), some (.int (nI D)), some (.long (lI q1.1)), none, none, none, none, none, none, none, none, none, none] [.int x] (shC, I1, L1, pX pa pb pu (some 38)) = jv (d + 1) 151 94 [some (.ref 116), some (.int (nI n)), some (.int (nI D)), some (.long (lI q1.1)), none, some (.int (if q1.2 = 1 ∧ q2.2 = 1 then 1 else 0)), some (.long (lI q2.1)), none, none, none, none, none, none, none] [] (shC, I2, fqC L2 (0, 0), pX pa pb pu (some 38)) := by
      intro x hx
      subst hx
      rw [B151_45_g38, if_pos (j_in_nI hn (by decide)), nI_clamp (by omega), c3, show nI D + 1 = nI (D + 1) from nI_add D 1, jgo_some (d := d) rfl s1]
      dsimp only [Option.toList_some, Option.toList_none, List.cons_append, List.nil_append]
      rw [B151_63_g38, s3, s4]
      have last : ∀ y : Int32, jv (d + 1) 151 88 [some (.ref 116), some (.int (nI n)), some (.int (nI D)), some (.long (lI q1.1)), none, some (.int (if q1.2 = 1 then 1 else 0)), some (.long (lI q2.1)), none, none, none, none, none, none, none] [.int y] (shC, I2, L2, pX pa pb pu (some 38)) = jv (d + 1) 151 94 [some (.ref 116), some (.int (nI n)), some (.int (nI D)), some (.long (lI q1.1)), none, some (.int y), some (.long (lI q2.1)), none, none, none, none, none, none, none] [] (shC, I2, fqC L2 (0, 0), pX pa pb pu (some 38)) := by
        intro y
        rw [B151_88_g38, jgo_some (d := d) rfl und_c]
        rfl
      by_cases z1 : q1.2 = 1
      · rw [if_pos z1, if_neg (by decide)]
        by_cases z2 : q2.2 = 1
        · rw [if_pos ((is1 q2 s5.1).mpr z2)]
          have := last 1
          rw [if_pos z1] at this
          rw [this, if_pos ⟨z1, z2⟩]
        · rw [if_neg (fun y => z2 ((is1 q2 s5.1).mp y)), B151_87_g38]
          have := last 0
          rw [if_pos z1] at this
          rw [this, if_neg (fun y => z2 y.2)]
      · rw [if_neg z1, if_pos rfl, B151_87_g38]
        have := last 0
        rw [if_neg z1] at this
        rw [this, if_neg (fun y => z1 y.1)]
    rw [B151_0_g38, if_pos (j_in_nI hn (by decide)), nI_clamp (by omega), hst.2.2.1, show nI t + 1 = nI (t + 1) from nI_add t 1, c2, show nI D + 1 = nI (D + 1) from nI_add D 1, jgo_some (d := d) rfl r1]
    dsimp only [Option.toList_some, Option.toList_none, List.cons_append, List.nil_append]
    rw [B151_26_g38, r3, r4]
    by_cases z1 : q1.2 = 1
    · rw [if_pos ((is1 q1 r5.1).mpr z1), step2 1 (by rw [if_pos z1])]
    · rw [if_neg (fun y => z1 ((is1 q1 r5.1).mp y)), step2 0 (by rw [if_neg z1])]
  -- both ends, with the step ahead of them
  have both := nSp.two (A := 1) (P := (0, 0)) (Q := (0, 0)) (r5.pre (by unfold kH; omega)) s5 s6 fN0 (fun _ _ => rfl)
  have t2b : t2 ≤ 10000 + kH h + 1 := by
    by_cases y : 10000 < t1
    · have := s6 y; have := r5.bd; omega
    · have := s5.bd; omega
  have ends : t + ((E1 f c).1 + (E2 f c).1 + 1) ≤ 10000 → t2 = t + ((E1 f c).1 + (E2 f c).1 + 1) ∧ q1 = (E1 f c).2 ∧ q2 = (E2 f c).2 := by
    intro z
    have a := r5.2.1 (by omega)
    have b := s5.2.1 (by omega)
    exact ⟨by omega, a.2, b.2⟩
  have endo : 10000 < t + ((E1 f c).1 + (E2 f c).1 + 1) → 10000 < t2 := by
    intro z
    by_cases y : t + 1 + (E1 f c).1 ≤ 10000
    · have a := r5.2.1 y
      by_cases y2 : t1 + (E2 f c).1 ≤ 10000
      · have b := s5.2.1 y2; omega
      · exact (s5.2.2 (by omega)).1
    · have a := (r5.2.2 (by omega)).1
      have := s6 a
      omega
  have low : (E1 f c).1 + (E2 f c).1 + 1 ≤ (if (E1 f c).2.2 = 1 ∧ (E2 f c).2.2 = 1 ∧ (E2 f c).2.1 - (E1 f c).2.1 < 64 then ((E1 f c).1 + (E2 f c).1 + 1 + (srd (fun v => E3 f (upZ c k v)) kind (E1 f c).2.1 ((E2 f c).2.1 - (E1 f c).2.1 + 1).toNat).1, (srd (fun v => E3 f (upZ c k v)) kind (E1 f c).2.1 ((E2 f c).2.1 - (E1 f c).2.1 + 1).toNat).2) else ((E1 f c).1 + (E2 f c).1 + 1, 0, 0) : Nat × Int × Int).1 := by
    by_cases y1 : (E1 f c).2.2 = 1 ∧ (E2 f c).2.2 = 1 ∧ (E2 f c).2.1 - (E1 f c).2.1 < 64
    · rw [if_pos y1]; show _ ≤ (E1 f c).1 + (E2 f c).1 + 1 + _; omega
    · rw [if_neg y1]; exact Nat.le_refl _
  rw [s0, B151_94_g38]
  have hba : (lI q2.1 - lI q1.1).toInt = q2.1 - q1.1 := by
    rw [lI_sub]; exact lI_toInt (by have := r5.1.1.1; have := r5.1.1.2; have := s5.1.1.1; have := s5.1.1.2; omega) (by have := r5.1.1.1; have := r5.1.1.2; have := s5.1.1.1; have := s5.1.1.2; omega)
  by_cases w1 : q1.2 = 1 ∧ q2.2 = 1
  · rw [if_pos w1, if_neg (by decide)]
    by_cases w2 : q2.1 - q1.1 < 64
    · rw [if_pos ((lcmp_neg _ _).mpr (by rw [hba]; exact w2)), if_pos (j_in_nI hn (by decide)), nI_clamp (by omega), c1]
      have s137 : (if nI (9 + kind) = 9 then jv (d + 1) 151 137 [some (.ref 116), some (.int (nI n)), some (.int (nI D)), some (.long (lI q1.1)), none, some (.int 1), some (.long (lI q2.1)), none, some (.int (nI (9 + kind))), some (.long 0), none, none, none, none] [.long 1] (shC, I2, fqC L2 (0, 0), pX pa pb pu (some 38)) else jv (d + 1) 151 137 [some (.ref 116), some (.int (nI n)), some (.int (nI D)), some (.long (lI q1.1)), none, some (.int 1), some (.long (lI q2.1)), none, some (.int (nI (9 + kind))), some (.long 0), none, none, none, none] [.long 0] (shC, I2, fqC L2 (0, 0), pX pa pb pu (some 38))) = jv (d + 1) 151 142 [some (.ref 116), some (.int (nI n)), some (.int (nI D)), some (.long (lI q1.1)), none, some (.int 1), some (.long (lI q2.1)), none, some (.int (nI (9 + kind))), some (.long (lI (0, (if kind = 0 then (1 : Int) else 0)).1)), none, some (.long (lI (0, (if kind = 0 then (1 : Int) else 0)).2)), none, some (.int (nI 0))] [] (shC, I2, fqC L2 (0, 0), pX pa pb pu (some 38)) := by
        rcases (show kind = 0 ∨ kind = 1 ∨ kind = 2 by omega) with rfl | rfl | rfl
        · rw [if_pos (by decide), B151_137_g38]; rfl
        · rw [if_neg (by decide), B151_137_g38]; rfl
        · rw [if_neg (by decide), B151_137_g38]; rfl
      rw [s137]
      obtain ⟨I3, L3, t3, p3, u1, u2, u3, u4⟩ := rounds_c38 (kind := kind) (n := n) (D := D) (d := d + 1) (f := f) (T0 := t2) (c := c) hW hs3 hne hs24 hn e3 e5 hk hf hh hD (by omega) r5.1.1 s5.1.1 w2 t2b 1 ((q2.1 - q1.1 + 1).toNat) 0 t2 I2 (fqC L2 (0, 0)) (0, if kind = 0 then 1 else 0) (by omega) st2 ⟨by
        by_cases y : kind = 0
        · rw [if_pos y]; exact fN1 ⟨by decide, by decide⟩
        · rw [if_neg y]; exact fN0, fun _ => ⟨rfl, rfl⟩, fun z => ⟨z, by omega⟩⟩
      refine ⟨I3, fqC L3 p3, t3, p3, u1, u2.fr hW p3, by rw [fqC_6], by rw [fqC_7], u3.1, fun z => ?_, fun z => ?_⟩
      · have en := ends (by omega)
        rw [if_pos (show (E1 f c).2.2 = 1 ∧ (E2 f c).2.2 = 1 ∧ (E2 f c).2.1 - (E1 f c).2.1 < 64 by rw [← en.2.1, ← en.2.2]; exact ⟨w1.1, w1.2, w2⟩)] at z ⊢
        have z : t + ((E1 f c).1 + (E2 f c).1 + 1 + (srd (fun v => E3 f (upZ c k v)) kind (E1 f c).2.1 ((E2 f c).2.1 - (E1 f c).2.1 + 1).toNat).1) ≤ 10000 := z
        rw [en.2.1, en.2.2] at u3
        have a := u3.2.1 (by omega)
        exact ⟨by show t3 = t + ((E1 f c).1 + (E2 f c).1 + 1 + (srd (fun v => E3 f (upZ c k v)) kind (E1 f c).2.1 ((E2 f c).2.1 - (E1 f c).2.1 + 1).toNat).1); omega, a.2⟩
      · by_cases y : t + ((E1 f c).1 + (E2 f c).1 + 1) ≤ 10000
        · have en := ends y
          rw [if_pos (show (E1 f c).2.2 = 1 ∧ (E2 f c).2.2 = 1 ∧ (E2 f c).2.1 - (E1 f c).2.1 < 64 by rw [← en.2.1, ← en.2.2]; exact ⟨w1.1, w1.2, w2⟩)] at z
          have z : 10000 < t + ((E1 f c).1 + (E2 f c).1 + 1 + (srd (fun v => E3 f (upZ c k v)) kind (E1 f c).2.1 ((E2 f c).2.1 - (E1 f c).2.1 + 1).toNat).1) := z
          rw [en.2.1, en.2.2] at u3
          have a := u3.2.2 (by omega)
          exact ⟨a.1, by omega⟩
        · have en := endo (by omega)
          have a := u4 en
          exact ⟨by omega, by omega⟩
    · rw [if_neg (fun y => w2 (by have := (lcmp_neg _ _).mp y; rw [hba] at this; exact this)), B151_110_g38]
      refine ⟨I2, fqC L2 (0, 0), t2, (0, 0), rfl, st2, by rw [fqC_6], by rw [fqC_7], fN0, fun z => ?_, fun z => ?_⟩
      · have en := ends (by omega)
        rw [if_neg (show ¬ ((E1 f c).2.2 = 1 ∧ (E2 f c).2.2 = 1 ∧ (E2 f c).2.1 - (E1 f c).2.1 < 64) by rw [← en.2.1, ← en.2.2]; exact fun y => w2 y.2.2)] at z ⊢
        exact ⟨en.1, rfl⟩
      · by_cases y : t + ((E1 f c).1 + (E2 f c).1 + 1) ≤ 10000
        · have en := ends y
          rw [if_neg (show ¬ ((E1 f c).2.2 = 1 ∧ (E2 f c).2.2 = 1 ∧ (E2 f c).2.1 - (E1 f c).2.1 < 64) by rw [← en.2.1, ← en.2.2]; exact fun y => w2 y.2.2)] at z
          have z : 10000 < t + ((E1 f c).1 + (E2 f c).1 + 1) := z
          omega
        · exact ⟨endo (by omega), by omega⟩
  · rw [if_neg w1, if_pos rfl, B151_110_g38]
    refine ⟨I2, fqC L2 (0, 0), t2, (0, 0), rfl, st2, by rw [fqC_6], by rw [fqC_7], fN0, fun z => ?_, fun z => ?_⟩
    · have en := ends (by omega)
      rw [if_neg (show ¬ ((E1 f c).2.2 = 1 ∧ (E2 f c).2.2 = 1 ∧ (E2 f c).2.1 - (E1 f c).2.1 < 64) by rw [← en.2.1, ← en.2.2]; exact fun y => w1 ⟨y.1, y.2.1⟩)] at z ⊢
      exact ⟨en.1, rfl⟩
    · by_cases y : t + ((E1 f c).1 + (E2 f c).1 + 1) ≤ 10000
      · have en := ends y
        rw [if_neg (show ¬ ((E1 f c).2.2 = 1 ∧ (E2 f c).2.2 = 1 ∧ (E2 f c).2.1 - (E1 f c).2.1 < 64) by rw [← en.2.1, ← en.2.2]; exact fun y => w1 ⟨y.1, y.2.1⟩)] at z
        have z : 10000 < t + ((E1 f c).1 + (E2 f c).1 + 1) := z
        omega
      · exact ⟨endo (by omega), by omega⟩
/-- a choice -/
theorem choice_c49 {s h n n1 n2 n3 w' : Nat} {rho : Nat → Nat} {c : Nat → Int} (hW : wSt wI) {E1 E2 E3 : Nat → (Nat → Int) → Nat × Int × Int} (hs1 : truP 49 wI I0 L0 pa pb pu E1 h w' s rho n1) (hs2 : numP 49 wI I0 L0 pa pb pu E2 h w' s rho n2) (hs3 : numP 49 wI I0 L0 pa pb pu E3 h w' s rho n3) (e1 : I0 51 n = nI n1) (e2 : I0 52 n = nI n2) (e3 : I0 53 n = nI n3) (hn : n < 1201) {f t D d : Nat} {I : Nat → Nat → Int32} {L : Nat → Nat → Int64} (hf : w' ≤ f) (ht : t ≤ 10000) (hh : h ≤ 75) (hD : D + 1 + h ≤ 150) (hd : 75 + 5 * h ≤ d) (hst : cSt wI I0 L0 s rho c t I L) : ∃ I' L' t' q, jv d 150 0 [some (.ref 116), some (.int (nI n)), some (.int (nI D)), none] [] (shC, I, L, pX pa pb pu (some 49)) = some (none, (shC, I', L', pX pa pb pu (some 49))) ∧ cSt wI I0 L0 s rho c t' I' L' ∧ L' 116 6 = lI q.1 ∧ L' 116 7 = lI q.2 ∧ nSp t (if (E1 f c).2.1 = 2 then ((E1 f c).1 + 1, 0, 0) else if (E1 f c).2.1 = 1 then ((E1 f c).1 + (E2 f c).1 + 1, (E2 f c).2) else ((E1 f c).1 + (E3 f c).1 + 1, (E3 f c).2) : Nat × Int × Int).1 (if (E1 f c).2.1 = 2 then ((E1 f c).1 + 1, 0, 0) else if (E1 f c).2.1 = 1 then ((E1 f c).1 + (E2 f c).1 + 1, (E2 f c).2) else ((E1 f c).1 + (E3 f c).1 + 1, (E3 f c).2) : Nat × Int × Int).2 q (kH h + 1300) t' := by
  obtain ⟨d, rfl⟩ : ∃ d', d = d' + 1 := ⟨d - 1, by omega⟩
  have st0 := hst.tk hW (t + 1)
  have c2 : j_up I 116 8 (nI (t + 1)) 51 n = nI n1 := by rw [st0.cell (by decide)]; exact e1
  obtain ⟨I1, L1, t1, v, r1, r2, r5, r6⟩ := hs1 f c (t + 1) (D + 1) d _ L hf (by omega) hD (by omega) st0
  have st1 := r2.fr hW (0, 0)
  have t1b : t1 + 2000 * h ≤ 1000000 := by have := r5.bd; unfold kH at this; omega
  have v3' := r5.1
  have k3 := nI_3 v v3'
  have s0 : jv (d + 1) 150 0 [some (.ref 116), some (.int (nI n)), some (.int (nI D)), none] [] (shC, I, L, pX pa pb pu (some 49)) = jv (d + 1) 150 31 [some (.ref 116), some (.int (nI n)), some (.int (nI D)), some (.int (vI v))] [] (shC, I1, fqC L1 (0, 0), pX pa pb pu (some 49)) := by
    rw [B150_0_g49, if_pos (j_in_nI hn (by decide)), nI_clamp (by omega), hst.2.2.1, show nI t + 1 = nI (t + 1) from nI_add t 1, c2, show nI D + 1 = nI (D + 1) from nI_add D 1, jgo_some (d := d) rfl r1]
    dsimp only [Option.toList_some, Option.toList_none, List.cons_append, List.nil_append]
    rw [B150_26_g49, jgo_some (d := d) rfl und_c]
    rfl
  have tail : ∀ (nn : Nat) (E : Nat → (Nat → Int) → Nat × Int × Int), numP 49 wI I0 L0 pa pb pu E h w' s rho nn → ∃ I' L' t' q, jv (d + 1) 150 63 [some (.ref 116), some (.int (nI n)), some (.int (nI D)), some (.int (vI v))] [.int (nI nn), .ref 116] (shC, I1, fqC L1 (0, 0), pX pa pb pu (some 49)) = some (none, (shC, I', L', pX pa pb pu (some 49))) ∧ cSt wI I0 L0 s rho c t' I' L' ∧ L' 116 6 = lI q.1 ∧ L' 116 7 = lI q.2 ∧ nSp t1 (E f c).1 (E f c).2 q (kH h) t' ∧ (10000 < t1 → t' = t1) := by
    intro nn E hs
    obtain ⟨I2, L2, t2, q2, s1, s2, s3, s4, s5, s6⟩ := hs f c t1 (D + 1) d I1 _ hf t1b hD (by omega) st1
    refine ⟨I2, L2, t2, q2, ?_, s2, s3, s4, s5, s6⟩
    rw [B150_63_g49, show nI D + 1 = nI (D + 1) from nI_add D 1, jgo_some (d := d) rfl s1]
    dsimp only [Option.toList_some, Option.toList_none, List.cons_append, List.nil_append]
    rw [B150_69_g49]
  rw [s0, B150_31_g49]
  by_cases z2 : v = 2
  · refine ⟨I1, fqC L1 (0, 0), t1, (0, 0), ?_, st1, by rw [fqC_6], by rw [fqC_7], fN0, fun z => ?_, fun z => ?_⟩
    · rw [if_pos (k3.1.mpr z2), B150_69_g49]
    · by_cases y : t + 1 + (E1 f c).1 ≤ 10000
      · have a := r5.2.1 y
        rw [if_pos (by rw [← a.2]; exact z2)] at z ⊢
        exact ⟨by have := a.1; show t1 = t + ((E1 f c).1 + 1); omega, rfl⟩
      · exfalso
        have : (E1 f c).1 + 1 ≤ (if (E1 f c).2.1 = 2 then ((E1 f c).1 + 1, 0, 0) else if (E1 f c).2.1 = 1 then ((E1 f c).1 + (E2 f c).1 + 1, (E2 f c).2) else ((E1 f c).1 + (E3 f c).1 + 1, (E3 f c).2) : Nat × Int × Int).1 := by
          by_cases y1 : (E1 f c).2.1 = 2
          · rw [if_pos y1]; exact Nat.le_refl _
          · rw [if_neg y1]
            by_cases y2 : (E1 f c).2.1 = 1
            · rw [if_pos y2]; show _ ≤ (E1 f c).1 + (E2 f c).1 + 1; omega
            · rw [if_neg y2]; show _ ≤ (E1 f c).1 + (E3 f c).1 + 1; omega
        omega
    · by_cases y : t + 1 + (E1 f c).1 ≤ 10000
      · have a := r5.2.1 y
        rw [if_pos (by rw [← a.2]; exact z2)] at z
        exact absurd z (by show ¬ 10000 < t + ((E1 f c).1 + 1); omega)
      · have a := r5.2.2 (by omega)
        exact ⟨a.1, by omega⟩
  · rw [if_neg (fun y => z2 (k3.1.mp y))]
    -- one of the two is worked out
    have pick : ∃ (nn : Nat) (E : Nat → (Nat → Int) → Nat × Int × Int), numP 49 wI I0 L0 pa pb pu E h w' s rho nn ∧ (if vI v = 1 then if j_in (nI n) 1201 = true then jv (d + 1) 150 63 [some (.ref 116), some (.int (nI n)), some (.int (nI D)), some (.int (vI v))] [.int (I1 52 (nI n).toNatClampNeg), .ref 116] (shC, I1, fqC L1 (0, 0), pX pa pb pu (some 49)) else none else if j_in (nI n) 1201 = true then jv (d + 1) 150 63 [some (.ref 116), some (.int (nI n)), some (.int (nI D)), some (.int (vI v))] [.int (I1 53 (nI n).toNatClampNeg), .ref 116] (shC, I1, fqC L1 (0, 0), pX pa pb pu (some 49)) else none) = jv (d + 1) 150 63 [some (.ref 116), some (.int (nI n)), some (.int (nI D)), some (.int (vI v))] [.int (nI nn), .ref 116] (shC, I1, fqC L1 (0, 0), pX pa pb pu (some 49)) ∧ (v = (E1 f c).2.1 → (if (E1 f c).2.1 = 2 then ((E1 f c).1 + 1, 0, 0) else if (E1 f c).2.1 = 1 then ((E1 f c).1 + (E2 f c).1 + 1, (E2 f c).2) else ((E1 f c).1 + (E3 f c).1 + 1, (E3 f c).2) : Nat × Int × Int) = ((E1 f c).1 + (E f c).1 + 1, (E f c).2)) := by
      by_cases z1 : v = 1
      · refine ⟨n2, E2, hs2, ?_, fun y => ?_⟩
        · rw [if_pos (k3.2.1.mpr z1), if_pos (j_in_nI hn (by decide)), nI_clamp (by omega), r2.cell (by decide), e2]
        · rw [← y, if_neg z2, if_pos z1]
      · refine ⟨n3, E3, hs3, ?_, fun y => ?_⟩
        · rw [if_neg (fun y => z1 (k3.2.1.mp y)), if_pos (j_in_nI hn (by decide)), nI_clamp (by omega), r2.cell (by decide), e3]
        · rw [← y, if_neg z2, if_neg z1]
    obtain ⟨nn, E, hs, p1, p2⟩ := pick
    obtain ⟨I2, L2, t2, q2, s1, s2, s3, s4, s5, s6⟩ := tail nn E hs
    refine ⟨I2, L2, t2, q2, by rw [p1, s1], s2, s3, s4, s5.1, fun z => ?_, fun z => ?_⟩
    · by_cases y : t + 1 + (E1 f c).1 ≤ 10000
      · have a := r5.2.1 y
        rw [p2 a.2] at z ⊢
        have b := s5.2.1 (by have : t + ((E1 f c).1 + (E f c).1 + 1) ≤ 10000 := z; omega)
        exact ⟨by show t2 = t + ((E1 f c).1 + (E f c).1 + 1); omega, b.2⟩
      · exfalso
        have : (E1 f c).1 + 1 ≤ (if (E1 f c).2.1 = 2 then ((E1 f c).1 + 1, 0, 0) else if (E1 f c).2.1 = 1 then ((E1 f c).1 + (E2 f c).1 + 1, (E2 f c).2) else ((E1 f c).1 + (E3 f c).1 + 1, (E3 f c).2) : Nat × Int × Int).1 := by
          by_cases y1 : (E1 f c).2.1 = 2
          · rw [if_pos y1]; exact Nat.le_refl _
          · rw [if_neg y1]
            by_cases y2 : (E1 f c).2.1 = 1
            · rw [if_pos y2]; show _ ≤ (E1 f c).1 + (E2 f c).1 + 1; omega
            · rw [if_neg y2]; show _ ≤ (E1 f c).1 + (E3 f c).1 + 1; omega
        omega
    · by_cases y : t + 1 + (E1 f c).1 ≤ 10000
      · have a := r5.2.1 y
        rw [p2 a.2] at z
        have z : 10000 < t + ((E1 f c).1 + (E f c).1 + 1) := z
        have b := s5.2.2 (by omega)
        exact ⟨b.1, by omega⟩
      · have a := r5.2.2 (by omega)
        have b := s6 a.1
        exact ⟨by omega, by omega⟩
/-- a series -/
theorem series_c49 {s h n n1 n2 n3 k kind w' : Nat} {rho : Nat → Nat} {c : Nat → Int} (hW : wSt wI) {E1 E2 E3 : Nat → (Nat → Int) → Nat × Int × Int} (hs1 : numP 49 wI I0 L0 pa pb pu E1 h w' s rho n1) (hs2 : numP 49 wI I0 L0 pa pb pu E2 h w' s rho n2) (hs3 : numP 49 wI I0 L0 pa pb pu E3 h w' (s + 1) (upN rho s k) n3) (hne : ∀ j, j < s → rho j ≠ k) (hs24 : s < 24) (e0 : I0 50 n = nI (9 + kind)) (hk : kind < 3) (e1 : I0 51 n = nI n1) (e2 : I0 52 n = nI n2) (e3 : I0 53 n = nI n3) (e5 : I0 54 n = nI s) (hn : n < 1201) {f t D d : Nat} {I : Nat → Nat → Int32} {L : Nat → Nat → Int64} (hf : w' ≤ f) (ht : t ≤ 10000) (hh : h ≤ 75) (hD : D + 1 + h ≤ 150) (hd : 76 + 5 * h ≤ d) (hst : cSt wI I0 L0 s rho c t I L) : ∃ I' L' t' q, jv d 151 0 [some (.ref 116), some (.int (nI n)), some (.int (nI D)), none, none, none, none, none, none, none, none, none, none, none] [] (shC, I, L, pX pa pb pu (some 49)) = some (none, (shC, I', L', pX pa pb pu (some 49))) ∧ cSt wI I0 L0 s rho c t' I' L' ∧ L' 116 6 = lI q.1 ∧ L' 116 7 = lI q.2 ∧ nSp t (if (E1 f c).2.2 = 1 ∧ (E2 f c).2.2 = 1 ∧ (E2 f c).2.1 - (E1 f c).2.1 < 64 then ((E1 f c).1 + (E2 f c).1 + 1 + (srd (fun v => E3 f (upZ c k v)) kind (E1 f c).2.1 ((E2 f c).2.1 - (E1 f c).2.1 + 1).toNat).1, (srd (fun v => E3 f (upZ c k v)) kind (E1 f c).2.1 ((E2 f c).2.1 - (E1 f c).2.1 + 1).toNat).2) else ((E1 f c).1 + (E2 f c).1 + 1, 0, 0) : Nat × Int × Int).1 (if (E1 f c).2.2 = 1 ∧ (E2 f c).2.2 = 1 ∧ (E2 f c).2.1 - (E1 f c).2.1 < 64 then ((E1 f c).1 + (E2 f c).1 + 1 + (srd (fun v => E3 f (upZ c k v)) kind (E1 f c).2.1 ((E2 f c).2.1 - (E1 f c).2.1 + 1).toNat).1, (srd (fun v => E3 f (upZ c k v)) kind (E1 f c).2.1 ((E2 f c).2.1 - (E1 f c).2.1 + 1).toNat).2) else ((E1 f c).1 + (E2 f c).1 + 1, 0, 0) : Nat × Int × Int).2 q (kH h + 1300) t' := by
  obtain ⟨d, rfl⟩ : ∃ d', d = d' + 1 := ⟨d - 1, by omega⟩
  have hH : HG = 1000000000000000000 := rfl
  have st0 := hst.tk hW (t + 1)
  have c2 : j_up I 116 8 (nI (t + 1)) 51 n = nI n1 := by rw [st0.cell (by decide)]; exact e1
  obtain ⟨I1, L1, t1, q1, r1, r2, r3, r4, r5, r6⟩ := hs1 f c (t + 1) (D + 1) d _ L hf (by omega) hD (by omega) st0
  have t1b : t1 + 2000 * h ≤ 1000000 := by have := r5.bd; unfold kH at this; omega
  have c3 : I1 52 n = nI n2 := by rw [r2.cell (by decide)]; exact e2
  obtain ⟨I2, L2, t2, q2, s1, s2, s3, s4, s5, s6⟩ := hs2 f c t1 (D + 1) d I1 L1 hf t1b hD (by omega) r2
  have st2 := s2.fr hW (0, 0)
  have c1 : I2 50 n = nI (9 + kind) := by rw [s2.cell (by decide)]; exact e0
  have is1 : ∀ q : Int × Int, fN q → (lg_cmp (lI q.2) 1 = 0 ↔ q.2 = 1) := fun q hq => by
    rw [lcmp_e]
    constructor
    · intro z; have := hq.d.i; rw [z] at this; exact this.symm
    · intro z; rw [z]; rfl
  have whole : (if q1.2 = 1 ∧ q2.2 = 1 then (1 : Int32) else 0) = (if q1.2 = 1 ∧ q2.2 = 1 then 1 else 0) := rfl
  have s0 : jv (d + 1) 151 0 [some (.ref 116), some (.int (nI n)), some (.int (nI D)), none, none, none, none, none, none, none, none, none, none, none] [] (shC, I, L, pX pa pb pu (some 49)) = jv (d + 1) 151 94 [some (.ref 116), some (.int (nI n)), some (.int (nI D)), some (.long (lI q1.1)), none, some (.int (if q1.2 = 1 ∧ q2.2 = 1 then 1 else 0)), some (.long (lI q2.1)), none, none, none, none, none, none, none] [] (shC, I2, fqC L2 (0, 0), pX pa pb pu (some 49)) := by
    have step2 : ∀ x : Int32, x = (if q1.2 = 1 then 1 else 0) → jv (d + 1) 151 45 [some (.ref 116), some (.int (nI n)), some (.int (nI D)), some (.long (lI q1.1)), none, none, none, none, none, none, none, none, none, none] [.int x] (shC, I1, L1, pX pa pb pu (some 49)) = jv (d + 1) 151 94 [some (.ref 116), some (.int (nI n)), some (.int (nI D)), some (.long (lI q1.1)), none, some (.int (if q1.2 = 1 ∧ q2.2 = 1 then 1 else 0)), some (.long (lI q2.1)), none, none, none, none, none, none, none] [] (shC, I2, fqC L2 (0, 0), pX pa pb pu (some 49)) := by
      intro x hx
      subst hx
      rw [B151_45_g49, if_pos (j_in_nI hn (by decide)), nI_clamp (by omega), c3, show nI D + 1 = nI (D + 1) from nI_add D 1, jgo_some (d := d) rfl s1]
      dsimp only [Option.toList_some, Option.toList_none, List.cons_append, List.nil_append]
      rw [B151_63_g49, s3, s4]
      have last : ∀ y : Int32, jv (d + 1) 151 88 [some (.ref 116), some (.int (nI n)), some (.int (nI D)), some (.long (lI q1.1)), none, some (.int (if q1.2 = 1 then 1 else 0)), some (.long (lI q2.1)), none, none, none, none, none, none, none] [.int y] (shC, I2, L2, pX pa pb pu (some 49)) = jv (d + 1) 151 94 [some (.ref 116), some (.int (nI n)), some (.int (nI D)), some (.long (lI q1.1)), none, some (.int y), some (.long (lI q2.1)), none, none, none, none, none, none, none] [] (shC, I2, fqC L2 (0, 0), pX pa pb pu (some 49)) := by
        intro y
        rw [B151_88_g49, jgo_some (d := d) rfl und_c]
        rfl
      by_cases z1 : q1.2 = 1
      · rw [if_pos z1, if_neg (by decide)]
        by_cases z2 : q2.2 = 1
        · rw [if_pos ((is1 q2 s5.1).mpr z2)]
          have := last 1
          rw [if_pos z1] at this
          rw [this, if_pos ⟨z1, z2⟩]
        · rw [if_neg (fun y => z2 ((is1 q2 s5.1).mp y)), B151_87_g49]
          have := last 0
          rw [if_pos z1] at this
          rw [this, if_neg (fun y => z2 y.2)]
      · rw [if_neg z1, if_pos rfl, B151_87_g49]
        have := last 0
        rw [if_neg z1] at this
        rw [this, if_neg (fun y => z1 y.1)]
    rw [B151_0_g49, if_pos (j_in_nI hn (by decide)), nI_clamp (by omega), hst.2.2.1, show nI t + 1 = nI (t + 1) from nI_add t 1, c2, show nI D + 1 = nI (D + 1) from nI_add D 1, jgo_some (d := d) rfl r1]
    dsimp only [Option.toList_some, Option.toList_none, List.cons_append, List.nil_append]
    rw [B151_26_g49, r3, r4]
    by_cases z1 : q1.2 = 1
    · rw [if_pos ((is1 q1 r5.1).mpr z1), step2 1 (by rw [if_pos z1])]
    · rw [if_neg (fun y => z1 ((is1 q1 r5.1).mp y)), step2 0 (by rw [if_neg z1])]
  -- both ends, with the step ahead of them
  have both := nSp.two (A := 1) (P := (0, 0)) (Q := (0, 0)) (r5.pre (by unfold kH; omega)) s5 s6 fN0 (fun _ _ => rfl)
  have t2b : t2 ≤ 10000 + kH h + 1 := by
    by_cases y : 10000 < t1
    · have := s6 y; have := r5.bd; omega
    · have := s5.bd; omega
  have ends : t + ((E1 f c).1 + (E2 f c).1 + 1) ≤ 10000 → t2 = t + ((E1 f c).1 + (E2 f c).1 + 1) ∧ q1 = (E1 f c).2 ∧ q2 = (E2 f c).2 := by
    intro z
    have a := r5.2.1 (by omega)
    have b := s5.2.1 (by omega)
    exact ⟨by omega, a.2, b.2⟩
  have endo : 10000 < t + ((E1 f c).1 + (E2 f c).1 + 1) → 10000 < t2 := by
    intro z
    by_cases y : t + 1 + (E1 f c).1 ≤ 10000
    · have a := r5.2.1 y
      by_cases y2 : t1 + (E2 f c).1 ≤ 10000
      · have b := s5.2.1 y2; omega
      · exact (s5.2.2 (by omega)).1
    · have a := (r5.2.2 (by omega)).1
      have := s6 a
      omega
  have low : (E1 f c).1 + (E2 f c).1 + 1 ≤ (if (E1 f c).2.2 = 1 ∧ (E2 f c).2.2 = 1 ∧ (E2 f c).2.1 - (E1 f c).2.1 < 64 then ((E1 f c).1 + (E2 f c).1 + 1 + (srd (fun v => E3 f (upZ c k v)) kind (E1 f c).2.1 ((E2 f c).2.1 - (E1 f c).2.1 + 1).toNat).1, (srd (fun v => E3 f (upZ c k v)) kind (E1 f c).2.1 ((E2 f c).2.1 - (E1 f c).2.1 + 1).toNat).2) else ((E1 f c).1 + (E2 f c).1 + 1, 0, 0) : Nat × Int × Int).1 := by
    by_cases y1 : (E1 f c).2.2 = 1 ∧ (E2 f c).2.2 = 1 ∧ (E2 f c).2.1 - (E1 f c).2.1 < 64
    · rw [if_pos y1]; show _ ≤ (E1 f c).1 + (E2 f c).1 + 1 + _; omega
    · rw [if_neg y1]; exact Nat.le_refl _
  rw [s0, B151_94_g49]
  have hba : (lI q2.1 - lI q1.1).toInt = q2.1 - q1.1 := by
    rw [lI_sub]; exact lI_toInt (by have := r5.1.1.1; have := r5.1.1.2; have := s5.1.1.1; have := s5.1.1.2; omega) (by have := r5.1.1.1; have := r5.1.1.2; have := s5.1.1.1; have := s5.1.1.2; omega)
  by_cases w1 : q1.2 = 1 ∧ q2.2 = 1
  · rw [if_pos w1, if_neg (by decide)]
    by_cases w2 : q2.1 - q1.1 < 64
    · rw [if_pos ((lcmp_neg _ _).mpr (by rw [hba]; exact w2)), if_pos (j_in_nI hn (by decide)), nI_clamp (by omega), c1]
      have s137 : (if nI (9 + kind) = 9 then jv (d + 1) 151 137 [some (.ref 116), some (.int (nI n)), some (.int (nI D)), some (.long (lI q1.1)), none, some (.int 1), some (.long (lI q2.1)), none, some (.int (nI (9 + kind))), some (.long 0), none, none, none, none] [.long 1] (shC, I2, fqC L2 (0, 0), pX pa pb pu (some 49)) else jv (d + 1) 151 137 [some (.ref 116), some (.int (nI n)), some (.int (nI D)), some (.long (lI q1.1)), none, some (.int 1), some (.long (lI q2.1)), none, some (.int (nI (9 + kind))), some (.long 0), none, none, none, none] [.long 0] (shC, I2, fqC L2 (0, 0), pX pa pb pu (some 49))) = jv (d + 1) 151 142 [some (.ref 116), some (.int (nI n)), some (.int (nI D)), some (.long (lI q1.1)), none, some (.int 1), some (.long (lI q2.1)), none, some (.int (nI (9 + kind))), some (.long (lI (0, (if kind = 0 then (1 : Int) else 0)).1)), none, some (.long (lI (0, (if kind = 0 then (1 : Int) else 0)).2)), none, some (.int (nI 0))] [] (shC, I2, fqC L2 (0, 0), pX pa pb pu (some 49)) := by
        rcases (show kind = 0 ∨ kind = 1 ∨ kind = 2 by omega) with rfl | rfl | rfl
        · rw [if_pos (by decide), B151_137_g49]; rfl
        · rw [if_neg (by decide), B151_137_g49]; rfl
        · rw [if_neg (by decide), B151_137_g49]; rfl
      rw [s137]
      obtain ⟨I3, L3, t3, p3, u1, u2, u3, u4⟩ := rounds_c49 (kind := kind) (n := n) (D := D) (d := d + 1) (f := f) (T0 := t2) (c := c) hW hs3 hne hs24 hn e3 e5 hk hf hh hD (by omega) r5.1.1 s5.1.1 w2 t2b 1 ((q2.1 - q1.1 + 1).toNat) 0 t2 I2 (fqC L2 (0, 0)) (0, if kind = 0 then 1 else 0) (by omega) st2 ⟨by
        by_cases y : kind = 0
        · rw [if_pos y]; exact fN1 ⟨by decide, by decide⟩
        · rw [if_neg y]; exact fN0, fun _ => ⟨rfl, rfl⟩, fun z => ⟨z, by omega⟩⟩
      refine ⟨I3, fqC L3 p3, t3, p3, u1, u2.fr hW p3, by rw [fqC_6], by rw [fqC_7], u3.1, fun z => ?_, fun z => ?_⟩
      · have en := ends (by omega)
        rw [if_pos (show (E1 f c).2.2 = 1 ∧ (E2 f c).2.2 = 1 ∧ (E2 f c).2.1 - (E1 f c).2.1 < 64 by rw [← en.2.1, ← en.2.2]; exact ⟨w1.1, w1.2, w2⟩)] at z ⊢
        have z : t + ((E1 f c).1 + (E2 f c).1 + 1 + (srd (fun v => E3 f (upZ c k v)) kind (E1 f c).2.1 ((E2 f c).2.1 - (E1 f c).2.1 + 1).toNat).1) ≤ 10000 := z
        rw [en.2.1, en.2.2] at u3
        have a := u3.2.1 (by omega)
        exact ⟨by show t3 = t + ((E1 f c).1 + (E2 f c).1 + 1 + (srd (fun v => E3 f (upZ c k v)) kind (E1 f c).2.1 ((E2 f c).2.1 - (E1 f c).2.1 + 1).toNat).1); omega, a.2⟩
      · by_cases y : t + ((E1 f c).1 + (E2 f c).1 + 1) ≤ 10000
        · have en := ends y
          rw [if_pos (show (E1 f c).2.2 = 1 ∧ (E2 f c).2.2 = 1 ∧ (E2 f c).2.1 - (E1 f c).2.1 < 64 by rw [← en.2.1, ← en.2.2]; exact ⟨w1.1, w1.2, w2⟩)] at z
          have z : 10000 < t + ((E1 f c).1 + (E2 f c).1 + 1 + (srd (fun v => E3 f (upZ c k v)) kind (E1 f c).2.1 ((E2 f c).2.1 - (E1 f c).2.1 + 1).toNat).1) := z
          rw [en.2.1, en.2.2] at u3
          have a := u3.2.2 (by omega)
          exact ⟨a.1, by omega⟩
        · have en := endo (by omega)
          have a := u4 en
          exact ⟨by omega, by omega⟩
    · rw [if_neg (fun y => w2 (by have := (lcmp_neg _ _).mp y; rw [hba] at this; exact this)), B151_110_g49]
      refine ⟨I2, fqC L2 (0, 0), t2, (0, 0), rfl, st2, by rw [fqC_6], by rw [fqC_7], fN0, fun z => ?_, fun z => ?_⟩
      · have en := ends (by omega)
        rw [if_neg (show ¬ ((E1 f c).2.2 = 1 ∧ (E2 f c).2.2 = 1 ∧ (E2 f c).2.1 - (E1 f c).2.1 < 64) by rw [← en.2.1, ← en.2.2]; exact fun y => w2 y.2.2)] at z ⊢
        exact ⟨en.1, rfl⟩
      · by_cases y : t + ((E1 f c).1 + (E2 f c).1 + 1) ≤ 10000
        · have en := ends y
          rw [if_neg (show ¬ ((E1 f c).2.2 = 1 ∧ (E2 f c).2.2 = 1 ∧ (E2 f c).2.1 - (E1 f c).2.1 < 64) by rw [← en.2.1, ← en.2.2]; exact fun y => w2 y.2.2)] at z
          have z : 10000 < t + ((E1 f c).1 + (E2 f c).1 + 1) := z
          omega
        · exact ⟨endo (by omega), by omega⟩
  · rw [if_neg w1, if_pos rfl, B151_110_g49]
    refine ⟨I2, fqC L2 (0, 0), t2, (0, 0), rfl, st2, by rw [fqC_6], by rw [fqC_7], fN0, fun z => ?_, fun z => ?_⟩
    · have en := ends (by omega)
      rw [if_neg (show ¬ ((E1 f c).2.2 = 1 ∧ (E2 f c).2.2 = 1 ∧ (E2 f c).2.1 - (E1 f c).2.1 < 64) by rw [← en.2.1, ← en.2.2]; exact fun y => w1 ⟨y.1, y.2.1⟩)] at z ⊢
      exact ⟨en.1, rfl⟩
    · by_cases y : t + ((E1 f c).1 + (E2 f c).1 + 1) ≤ 10000
      · have en := ends y
        rw [if_neg (show ¬ ((E1 f c).2.2 = 1 ∧ (E2 f c).2.2 = 1 ∧ (E2 f c).2.1 - (E1 f c).2.1 < 64) by rw [← en.2.1, ← en.2.2]; exact fun y => w1 ⟨y.1, y.2.1⟩)] at z
        have z : 10000 < t + ((E1 f c).1 + (E2 f c).1 + 1) := z
        omega
      · exact ⟨endo (by omega), by omega⟩
end EVAJ
