/-! RULES: every number and every condition in the second one -/
section EVAN
variable {wJ : (Nat → Nat → Int32) → (Nat → Nat → Int64) → Prop} {J0 : Nat → Nat → Int32} {L0 : Nat → Nat → Int64} {ln : Nat → Nat} {tq : Nat → Int × Int → Int × Int} {wd : Nat → Int × Int} {wo : Nat → Int × Int → Int × Int}
variable {C : Nat → Nat → Int32} {nl nt : Nat} {wl : Nat → Nat}
/-- what the second one needs around it -/
def envR (wJ : (Nat → Nat → Int32) → (Nat → Nat → Int64) → Prop) (J0 : Nat → Nat → Int32) (L0 : Nat → Nat → Int64) (nl nt : Nat) (ln : Nat → Nat) (tq : Nat → Int × Int → Int × Int) (wd : Nat → Int × Int) (wo : Nat → Int × Int → Int × Int) : Prop := wStR wJ ∧
  (∀ w, w < 13 → fN (wd w) ∧ nz (wd w)) ∧ (∀ w p, w < 11 → fN (wo w p) ∧ nz (wo w p)) ∧ (∀ i p, i < nt → fN (tq i p) ∧ nz (tq i p)) ∧ nt ≤ 8 ∧ (∀ i, i < nl → J0 27 i = nI (ln i)) ∧
  (∀ e s rho c t J L w, 60 ≤ e → w < 13 → rSt wJ J0 L0 s rho c t J L → ∃ J' L', jv e 291 0 [some (.ref 0), some (.int (nI w))] [] (shR, J, L, pR) = some (none, (shR, J', fqR L' (wd w), pR)) ∧ rSt wJ J0 L0 s rho c t J' L') ∧
  (∀ e s rho c t J L w p, 60 ≤ e → w < 11 → rSt wJ J0 L0 s rho c t J L → fN p → ∃ J' L', jv e 293 0 [some (.ref 0), some (.int (nI w)), some (.long (lI p.1)), none, some (.long (lI p.2)), none, none, none, none, none, none, none] [] (shR, J, L, pR) = some (none, (shR, J', fqR L' (wo w p), pR)) ∧ rSt wJ J0 L0 s rho c t J' L') ∧
  (∀ e s rho c t J L i p, 60 ≤ e → i < nt → rSt wJ J0 L0 s rho c t J L → fN p → ∃ J' L', jv e 287 0 [some (.ref 0), some (.int (nI i)), some (.long (lI p.1)), none, some (.long (lI p.2)), none, none, none, none, none, none, none, none, none] [] (shR, J, L, pR) = some (none, (shR, J', fqR L' (tq i p), pR)) ∧ rSt wJ J0 L0 s rho c t J' L')
/-- nothing below, nothing above -/
theorem ev_nz {R : Nat → Nat → Int32} {V : Nat → Int64} (hn : nl ≤ 40) (hl : ltR C R V nl wl ln) (w1 : ∀ w, w < 13 → nz (wd w)) (w2 : ∀ w p, w < 11 → nz (wo w p)) (w3 : ∀ i p, i < nt → nz (tq i p)) (hnt : nt ≤ 8) (hlt : ∀ i, i < nl → ∃ n mt, mt ≤ nt ∧ rel C R V i mt (wl i) 75 true (wl (i + 1)) 0 rho0 n (ln i)) : ∀ w, (∀ (m mt h s : Nat) (rho : Nat → Nat) (n k : Nat), m ≤ nl → mt ≤ nt → rel C R V m mt (wl m) h true w s rho n k → ∀ f (c : Nat → Int), w ≤ f → nz (ev R V ln tq wd wo f true c k).2) := by
  intro w
  induction w using Nat.strongRecOn with
  | _ w ih =>
    intro m mt h s rho n k hm hmt hr f c hf
    cases h with
    | zero => exact hr.elim
    | succ h =>
      obtain ⟨a1, a2, z⟩ := hr
      rcases z with ⟨kd, j, last, c1, hc, c3⟩ | ⟨w', lw, z⟩
      · have w0 : 0 < w ∧ opC kd (C 4 last) (R 0 k) := by
          cases j with
          | zero => obtain ⟨a1, a2, a3, a4, a5, w', n1, k1, n2, k2, b1, _⟩ := hc; exact ⟨by omega, by rw [a1]; exact a5⟩
          | succ j => obtain ⟨a1, a2, a3, a4, w', l', k', n2, k2, b1, _⟩ := hc; exact ⟨by omega, a4⟩
        obtain ⟨w0, op⟩ := w0
        obtain ⟨f, rfl⟩ : ∃ g, f = g + 1 := ⟨f - 1, by omega⟩
        rcases c1 with ⟨_, rfl⟩ | ⟨c1, _⟩
        · rw [ev_t]
          rcases op with ⟨_, op⟩ | ⟨op, _⟩ | ⟨op, _⟩
          · rcases op with ⟨_, op⟩ | ⟨_, op⟩ | ⟨_, op⟩ | ⟨_, op⟩ <;> rw [op] <;> exact fA_nz _ _ _ _ _
          · exact absurd op (by decide)
          · exact absurd op (by decide)
        · exact absurd c1 (by decide)
      obtain ⟨f, rfl⟩ : ∃ g, f = g + 1 := ⟨f - 1, by omega⟩
      have sub : ∀ (n1 k1 : Nat), rel C R V m mt (wl m) h true w' s rho n1 k1 → nz (ev R V ln tq wd wo f true c k1).2 := fun n1 k1 q => ih w' lw m mt h s rho n1 k1 hm hmt q f c (by omega)
      rcases z with ⟨_, z⟩ | ⟨z, _⟩
      case inr => exact absurd z (by decide)
      rw [ev_t]
      rcases z with ⟨_, o, v, v1, _, v2⟩ | ⟨_, o, i, i1, _, i2, i3⟩ | ⟨_, o, i, i1, _, i2, i3⟩ | ⟨_, o, i, n1, k1, i1, _, e1, _, e2, q⟩ | ⟨_, o, i, i1, _, e1⟩ | ⟨_, o, i, n1, k1, i1, _, e1, _, e2, q⟩ | ⟨_, o, n1, k1, _, e1, q⟩ | ⟨_, o, n1, k1, n2, k2, n3, k3, _, e1, q1, _, e2, q2, _, e3, q3⟩ | ⟨i, n1, k1, n2, k2, n3, k3, w2', i3, _, o, _, _, lw2, _, e1, q1, _, e2, q2, _, e3, q3, hne⟩
      · rw [if_pos o]; intro z; exact absurd z (show ¬ (1 : Int) = 0 by decide)
      · rw [if_neg (by rw [o]; decide), if_pos o]; intro z; exact absurd z (show ¬ (1 : Int) = 0 by decide)
      · obtain ⟨n1, mt1, hmt1, q⟩ := hlt i (by omega)
        have q4 : (R 1 k).toNatClampNeg = i := by rw [i2]; exact nI_clamp (by omega)
        rw [if_neg (by rw [o]; decide), if_neg (by rw [o]; decide), if_pos o, q4]
        exact ih (wl (i + 1)) (by have := hl.1 (i + 1) m (by omega); omega) i mt1 75 0 rho0 n1 (ln i) (by omega) hmt1 q f c (by have := hl.1 (i + 1) m (by omega); omega)
      · have q4 : (R 1 k).toNatClampNeg = i := by rw [e1]; exact nI_clamp (by omega)
        rw [if_neg (by rw [o]; decide), if_neg (by rw [o]; decide), if_neg (by rw [o]; decide), if_pos o, q4]; exact w3 i _ (by omega)
      · have q4 : (R 1 k).toNatClampNeg = i := by rw [e1]; exact nI_clamp (by omega)
        rw [if_neg (by rw [o]; decide), if_neg (by rw [o]; decide), if_neg (by rw [o]; decide), if_neg (by rw [o]; decide), if_pos o, q4]; exact w1 i i1
      · have q4 : (R 1 k).toNatClampNeg = i := by rw [e1]; exact nI_clamp (by omega)
        rw [if_neg (by rw [o]; decide), if_neg (by rw [o]; decide), if_neg (by rw [o]; decide), if_neg (by rw [o]; decide), if_neg (by rw [o]; decide), if_pos o, q4]; exact w2 i _ i1
      · have t1 := sub n1 k1 q
        rw [← nN e1 (rel_k q).2] at t1
        rw [if_neg (by rw [o]; decide), if_neg (by rw [o]; decide), if_neg (by rw [o]; decide), if_neg (by rw [o]; decide), if_neg (by rw [o]; decide), if_neg (by rw [o]; decide), if_neg (by rw [o]; decide), if_pos o]
        intro z
        have := t1 z
        show -_ = (0 : Int)
        rw [this]; rfl
      · have t2 := sub n2 k2 q2
        have t3 := sub n3 k3 q3
        rw [← nN e2 (rel_k q2).2] at t2
        rw [← nN e3 (rel_k q3).2] at t3
        rw [if_neg (by rw [o]; decide), if_neg (by rw [o]; decide), if_neg (by rw [o]; decide), if_neg (by rw [o]; decide), if_neg (by rw [o]; decide), if_neg (by rw [o]; decide), if_pos o]
        by_cases z1 : (ev R V ln tq wd wo f false c (R 1 k).toNatClampNeg).2.1 = 2
        · rw [if_pos z1]; intro _; rfl
        · rw [if_neg z1]
          by_cases z2 : (ev R V ln tq wd wo f false c (R 1 k).toNatClampNeg).2.1 = 1
          · rw [if_pos z2]; exact t2
          · rw [if_neg z2]; exact t3
      · have no : ∀ j : Int32, (j = 1 ∨ j = 2 ∨ j = 3 ∨ j = 4 ∨ j = 5 ∨ j = 6 ∨ j = 7 ∨ j = 11 ∨ j = 12 ∨ j = 13 ∨ j = 14 ∨ j = 15) → R 0 k ≠ j := by
          intro j hj z
          rw [o] at z
          subst z
          rcases (show i = 0 ∨ i = 1 ∨ i = 2 by omega) with y | y | y <;> subst y <;> exact absurd hj (by decide)
        rw [if_neg (no 1 (by decide)), if_neg (no 2 (by decide)), if_neg (no 3 (by decide)), if_neg (no 4 (by decide)), if_neg (no 5 (by decide)), if_neg (no 6 (by decide)), if_neg (no 7 (by decide)), if_neg (no 11 (by decide)), if_neg (show ¬ (R 0 k = 12 ∨ R 0 k = 13 ∨ R 0 k = 14 ∨ R 0 k = 15) from fun z => by rcases z with z | z | z | z; exact no 12 (by decide) z; exact no 13 (by decide) z; exact no 14 (by decide) z; exact no 15 (by decide) z)]
        by_cases z1 : (ev R V ln tq wd wo f true c (R 1 k).toNatClampNeg).2.2 = 1 ∧ (ev R V ln tq wd wo f true c (R 2 k).toNatClampNeg).2.2 = 1 ∧ (ev R V ln tq wd wo f true c (R 2 k).toNatClampNeg).2.1 - (ev R V ln tq wd wo f true c (R 1 k).toNatClampNeg).2.1 < 64
        · rw [if_pos z1]
          refine srd_nz _ _ _ (fun j hj => ?_)
          rw [nN e3 (rel_k q3).2]
          exact ih w2' (by omega) m mt h (s + 1) (upN rho s k) n3 k3 hm hmt q3 f _ (by omega)
        · rw [if_neg z1]; intro _; rfl
/-- a series -/
theorem series_r {s t k k1 k2 k3 kind w' : Nat} {rho : Nat → Nat} {c : Nat → Int} {J : Nat → Nat → Int32} {L : Nat → Nat → Int64} (hW : wStR wJ) {E1 E2 E3 : Nat → (Nat → Int) → Nat × Int × Int} (hs1 : valP wJ J0 L0 E1 w' s rho k1) (hs2 : valP wJ J0 L0 E2 w' s rho k2) (hs3 : valP wJ J0 L0 E3 w' (s + 1) (upN rho s k) k3) (hne : ∀ j, j < s → rho j ≠ k) (e0 : J0 21 k = nI (8 + kind)) (hk : kind < 3) (e1 : J0 22 k = nI k1) (e2 : J0 23 k = nI k2) (e3 : J0 24 k = nI k3) (hn : k < 1400) {f e : Nat} (hz : ∀ v, nz (E3 f (upZ c k v)).2) (hf : w' ≤ f) (ht : t ≤ 10000) (he : 72 + w' ≤ e) (hst : rSt wJ J0 L0 s rho c t J L) : ∃ J' L' t' q, jv e 285 0 [some (.ref 0), some (.int (nI k)), none, none, none, none, none] [] (shR, J, L, pR) = some (none, (shR, J', L', pR)) ∧ rSt wJ J0 L0 s rho c t' J' L' ∧ L' 0 54 = lI q.1 ∧ L' 0 55 = lI q.2 ∧ rSp t (if (E1 f c).2.2 = 1 ∧ (E2 f c).2.2 = 1 ∧ (E2 f c).2.1 - (E1 f c).2.1 < 64 then ((E1 f c).1 + (E2 f c).1 + 1 + (srd (fun v => E3 f (upZ c k v)) kind (E1 f c).2.1 ((E2 f c).2.1 - (E1 f c).2.1 + 1).toNat).1, (srd (fun v => E3 f (upZ c k v)) kind (E1 f c).2.1 ((E2 f c).2.1 - (E1 f c).2.1 + 1).toNat).2) else ((E1 f c).1 + (E2 f c).1 + 1, 0, 0) : Nat × Int × Int).1 (if (E1 f c).2.2 = 1 ∧ (E2 f c).2.2 = 1 ∧ (E2 f c).2.1 - (E1 f c).2.1 < 64 then ((E1 f c).1 + (E2 f c).1 + 1 + (srd (fun v => E3 f (upZ c k v)) kind (E1 f c).2.1 ((E2 f c).2.1 - (E1 f c).2.1 + 1).toNat).1, (srd (fun v => E3 f (upZ c k v)) kind (E1 f c).2.1 ((E2 f c).2.1 - (E1 f c).2.1 + 1).toNat).2) else ((E1 f c).1 + (E2 f c).1 + 1, 0, 0) : Nat × Int × Int).2 q t' := by
  have hH : HG = 1000000000000000000 := rfl
  obtain ⟨e, rfl⟩ : ∃ e', e = e' + 2 := ⟨e - 2, by omega⟩
  have st0 := hst.fr hW (0, 0)
  obtain ⟨Ja, a1, a2⟩ := stp_r (e := e + 1) hW st0 ht
  obtain ⟨J1, L1, t1, q1, r1, r2, r3, r4, r5, r6⟩ := hs1 f c (t + 1) e Ja _ hf (by omega) a2
  obtain ⟨J2, L2, t2, q2, s1, s2, s3, s4, s5, s6⟩ := hs2 f c t1 e J1 L1 hf (by omega) r2
  have st2 := s2.fr hW (0, 0)
  have is1 : ∀ q : Int × Int, fN q → (lg_cmp (lI q.2) 1 = 0 ↔ q.2 = 1) := fun q hq => by
    rw [lcmp_e]
    constructor
    · intro z; have := hq.d.i; rw [z] at this; exact this.symm
    · intro z; rw [z]; rfl
  have ne : ∀ j : Int32, (j = Int32.ofInt 1 ∨ j = Int32.ofInt 2 ∨ j = Int32.ofInt 3 ∨ j = Int32.ofInt 4 ∨ j = Int32.ofInt 5 ∨ j = Int32.ofInt 6 ∨ j = Int32.ofInt 7) → J0 21 k ≠ j := by
    intro j hj z
    rw [e0] at z
    subst z
    rcases (show kind = 0 ∨ kind = 1 ∨ kind = 2 by omega) with y | y | y <;> subst y <;> exact absurd hj (by decide)
  have hba : (lI q2.1 - lI q1.1).toInt = q2.1 - q1.1 := by
    rw [lI_sub]; exact lI_toInt (by have := r5.1.1.1; have := r5.1.1.2; have := s5.1.1.1; have := s5.1.1.2; omega) (by have := r5.1.1.1; have := r5.1.1.2; have := s5.1.1.1; have := s5.1.1.2; omega)
  -- up to the rounds
  have run : jv (e + 2) 285 0 [some (.ref 0), some (.int (nI k)), none, none, none, none, none] [] (shR, J, L, pR) = jgo jTT jMM (e + 2) 286 [.ref 0, .int (nI k)] (shR, Ja, fqR L (0, 0), pR) (fun v S => jv (e + 2) 285 280 [some (.ref 0), some (.int (nI k)), none, none, none, none, none] (v.toList ++ []) S) := by
    have s271 : jv (e + 2) 285 271 [some (.ref 0), some (.int (nI k)), none, none, none, none, none] [] (shR, J, fqR L (0, 0), pR) = jgo jTT jMM (e + 2) 286 [.ref 0, .int (nI k)] (shR, Ja, fqR L (0, 0), pR) (fun v S => jv (e + 2) 285 280 [some (.ref 0), some (.int (nI k)), none, none, none, none, none] (v.toList ++ []) S) := by
      rw [B285_271, jgo_some (d := e + 1) rfl a1]
      dsimp only [Option.toList_some, Option.toList_none, List.cons_append, List.nil_append]
      rw [B285_275]
    rw [B285_0, jgo_some (d := e + 1) rfl und_r]
    dsimp only [Option.toList_some, Option.toList_none, List.cons_append, List.nil_append]
    rw [B285_4, if_pos (hst.on ht), if_pos (j_in_nI hn (by decide)), nI_clamp (by omega), hst.cell (k := 21) (by decide) (by decide), if_neg (ne _ (by decide)), if_neg (ne _ (by decide)), if_neg (ne _ (by decide)), if_neg (ne _ (by decide)), if_neg (ne _ (by decide)), if_neg (ne _ (by decide)), if_neg (ne _ (by decide))]
    rcases (show kind = 0 ∨ kind = 1 ∨ kind = 2 by omega) with y | y | y <;> subst y
    · rw [if_pos (show J0 21 k = Int32.ofInt 8 by rw [e0]; decide), s271]
    · rw [if_neg (show ¬ J0 21 k = Int32.ofInt 8 by rw [e0]; decide), if_pos (show J0 21 k = Int32.ofInt 9 by rw [e0]; decide), s271]
    · rw [if_neg (show ¬ J0 21 k = Int32.ofInt 8 by rw [e0]; decide), if_neg (show ¬ J0 21 k = Int32.ofInt 9 by rw [e0]; decide), if_pos (show J0 21 k = Int32.ofInt 10 by rw [e0]; decide), s271]
  have good : ∀ y : Int32, jv (e + 1) 286 77 [some (.ref 0), some (.int (nI k)), some (.long (lI q1.1)), none, some (.int (if q1.2 = 1 then 1 else 0)), some (.long (lI q2.1)), none, none, none, none, none, none, none, none] [.int y] (shR, J2, L2, pR) = jv (e + 1) 286 83 [some (.ref 0), some (.int (nI k)), some (.long (lI q1.1)), none, some (.int y), some (.long (lI q2.1)), none, none, none, none, none, none, none, none] [] (shR, J2, fqR L2 (0, 0), pR) := by
    intro y
    rw [B286_77, jgo_some (d := e) rfl und_r]
    rfl
  have s0 : jv (e + 1) 286 0 [some (.ref 0), some (.int (nI k)), none, none, none, none, none, none, none, none, none, none, none, none] [] (shR, Ja, fqR L (0, 0), pR) = jv (e + 1) 286 83 [some (.ref 0), some (.int (nI k)), some (.long (lI q1.1)), none, some (.int (if q1.2 = 1 ∧ q2.2 = 1 ∧ q2.1 - q1.1 < 64 then 1 else 0)), some (.long (lI q2.1)), none, none, none, none, none, none, none, none] [] (shR, J2, fqR L2 (0, 0), pR) := by
    have step2 : ∀ x : Int32, x = (if q1.2 = 1 then 1 else 0) → jv (e + 1) 286 29 [some (.ref 0), some (.int (nI k)), some (.long (lI q1.1)), none, none, none, none, none, none, none, none, none, none, none] [.int x] (shR, J1, L1, pR) = jv (e + 1) 286 83 [some (.ref 0), some (.int (nI k)), some (.long (lI q1.1)), none, some (.int (if q1.2 = 1 ∧ q2.2 = 1 ∧ q2.1 - q1.1 < 64 then 1 else 0)), some (.long (lI q2.1)), none, none, none, none, none, none, none, none] [] (shR, J2, fqR L2 (0, 0), pR) := by
      intro x hx
      subst hx
      rw [B286_29, if_pos (j_in_nI hn (by decide)), nI_clamp (by omega), r2.cell (k := 23) (by decide) (by decide), e2, jgo_some (d := e) rfl s1]
      dsimp only [Option.toList_some, Option.toList_none, List.cons_append, List.nil_append]
      rw [B286_41, s3, s4]
      by_cases z1 : q1.2 = 1
      · have g1 := good 1
        have g0 := good 0
        rw [if_pos z1] at g1 g0
        rw [if_pos z1, if_neg (by decide)]
        by_cases z2 : q2.2 = 1
        · rw [if_pos ((is1 q2 s5.1).mpr z2)]
          by_cases z3 : q2.1 - q1.1 < 64
          · rw [if_pos ((lcmp_neg _ _).mpr (by rw [hba]; exact z3)), g1, if_pos ⟨z1, z2, z3⟩]
          · rw [if_neg (fun y => z3 (by have := (lcmp_neg _ _).mp y; rw [hba] at this; exact this)), B286_76, g0, if_neg (fun y => z3 y.2.2)]
        · rw [if_neg (fun y => z2 ((is1 q2 s5.1).mp y)), B286_76, g0, if_neg (fun y => z2 y.2.1)]
      · have g0 := good 0
        rw [if_neg z1] at g0
        rw [if_neg z1, if_pos rfl, B286_76, g0, if_neg (fun y => z1 y.1)]
    rw [B286_0, if_pos (j_in_nI hn (by decide)), nI_clamp (by omega), a2.cell (k := 22) (by decide) (by decide), e1, jgo_some (d := e) rfl r1]
    dsimp only [Option.toList_some, Option.toList_none, List.cons_append, List.nil_append]
    rw [B286_10, r3, r4]
    by_cases z1 : q1.2 = 1
    · rw [if_pos ((is1 q1 r5.1).mpr z1), step2 1 (by rw [if_pos z1])]
    · rw [if_neg (fun y => z1 ((is1 q1 r5.1).mp y)), step2 0 (by rw [if_neg z1])]
  have ends : t + ((E1 f c).1 + (E2 f c).1 + 1) ≤ 10000 → t2 = t + ((E1 f c).1 + (E2 f c).1 + 1) ∧ q1 = (E1 f c).2 ∧ q2 = (E2 f c).2 := by
    intro z
    have a := r5.2.1 (by omega)
    have b := s5.2.1 (by omega)
    exact ⟨by omega, a.2, b.2⟩
  have endo : 10000 < t + ((E1 f c).1 + (E2 f c).1 + 1) → 10000 < t2 := by
    intro z
    by_cases y : t + 1 + (E1 f c).1 ≤ 10000
    · have a := r5.2.1 y
      by_cases y2 : t1 + (E2 f c).1 ≤ 10000
      · have b := s5.2.1 y2; omega
      · exact s5.2.2 (by omega)
    · exact s6 (r5.2.2 (by omega))
  have low : (E1 f c).1 + (E2 f c).1 + 1 ≤ (if (E1 f c).2.2 = 1 ∧ (E2 f c).2.2 = 1 ∧ (E2 f c).2.1 - (E1 f c).2.1 < 64 then ((E1 f c).1 + (E2 f c).1 + 1 + (srd (fun v => E3 f (upZ c k v)) kind (E1 f c).2.1 ((E2 f c).2.1 - (E1 f c).2.1 + 1).toNat).1, (srd (fun v => E3 f (upZ c k v)) kind (E1 f c).2.1 ((E2 f c).2.1 - (E1 f c).2.1 + 1).toNat).2) else ((E1 f c).1 + (E2 f c).1 + 1, 0, 0) : Nat × Int × Int).1 := by
    by_cases y1 : (E1 f c).2.2 = 1 ∧ (E2 f c).2.2 = 1 ∧ (E2 f c).2.1 - (E1 f c).2.1 < 64
    · rw [if_pos y1]; show _ ≤ (E1 f c).1 + (E2 f c).1 + 1 + _; omega
    · rw [if_neg y1]; exact Nat.le_refl _
  by_cases w1 : q1.2 = 1 ∧ q2.2 = 1 ∧ q2.1 - q1.1 < 64
  · have s1x : jv (e + 1) 286 83 [some (.ref 0), some (.int (nI k)), some (.long (lI q1.1)), none, some (.int (if q1.2 = 1 ∧ q2.2 = 1 ∧ q2.1 - q1.1 < 64 then 1 else 0)), some (.long (lI q2.1)), none, none, none, none, none, none, none, none] [] (shR, J2, fqR L2 (0, 0), pR) = jv (e + 1) 286 113 [some (.ref 0), some (.int (nI k)), some (.long (lI q1.1)), none, some (.int 1), some (.long (lI q2.1)), none, some (.long (lI 0)), none, some (.long (lI (0, (if kind = 0 then (1 : Int) else 0)).2)), none, some (.long (lI (q1.1 + ((0 : Nat) : Int)))), none, none] [] (shR, J2, fqR L2 (0, 0), pR) := by
      rw [if_pos w1, B286_83, if_neg (by decide), if_pos (j_in_nI hn (by decide)), nI_clamp (by omega), s2.cell (k := 21) (by decide) (by decide), e0, show q1.1 + ((0 : Nat) : Int) = q1.1 by omega]
      rcases (show kind = 0 ∨ kind = 1 ∨ kind = 2 by omega) with rfl | rfl | rfl
      · rw [if_pos (by decide), B286_108]; rfl
      · rw [if_neg (by decide), B286_108]; rfl
      · rw [if_neg (by decide), B286_108]; rfl
    have fn0 : fN (0, if kind = 0 then (1 : Int) else 0) := by
      by_cases y : kind = 0
      · rw [if_pos y]; exact fN1 ⟨by decide, by decide⟩
      · rw [if_neg y]; exact fN0
    obtain ⟨J3, L3, t3, p3, x3, u1, u2, u3, u4, u5⟩ := rounds_r (kind := kind) (e := e + 1) (f := f) (T0 := t2) (c := c) hW hs3 hne hn e0 e3 hk hf (by omega) r5.1.1 s5.1.1 w1.2.2 1 ((q2.1 - q1.1 + 1).toNat) 0 t2 J2 (fqR L2 (0, 0)) (0, if kind = 0 then 1 else 0) 0 none (by omega) st2 ⟨by decide, by decide⟩ (fun _ => rfl) ⟨fn0, fun _ => ⟨rfl, rfl⟩, fun z => z⟩
    have fq : fN (if p3.2 = 0 then 0 else x3, p3.2) := by
      by_cases y : p3.2 = 0
      · rw [if_pos y]; exact ⟨⟨(by decide : -HG ≤ (0 : Int)), (by decide : (0 : Int) ≤ HG)⟩, u4.1.2⟩
      · rw [if_neg y, u3 y]; exact u4.1
    refine ⟨J3, _, t3, (if p3.2 = 0 then 0 else x3, p3.2), ?_, u2.fr hW _, by rw [fqR_54], by rw [fqR_55], fq, fun z => ?_, fun z => ?_⟩
    · rw [run, jgo_some (d := e + 1) rfl (s0.trans (s1x.trans u1))]
      dsimp only [Option.toList_some, Option.toList_none, List.cons_append, List.nil_append]
      rw [B285_280]
    · have en := ends (by omega)
      rw [if_pos (show (E1 f c).2.2 = 1 ∧ (E2 f c).2.2 = 1 ∧ (E2 f c).2.1 - (E1 f c).2.1 < 64 by rw [← en.2.1, ← en.2.2]; exact w1)] at z ⊢
      have z : t + ((E1 f c).1 + (E2 f c).1 + 1 + (srd (fun v => E3 f (upZ c k v)) kind (E1 f c).2.1 ((E2 f c).2.1 - (E1 f c).2.1 + 1).toNat).1) ≤ 10000 := z
      rw [en.2.1, en.2.2] at u4
      have a := u4.2.1 (by omega)
      refine ⟨by show t3 = t + ((E1 f c).1 + (E2 f c).1 + 1 + (srd (fun v => E3 f (upZ c k v)) kind (E1 f c).2.1 ((E2 f c).2.1 - (E1 f c).2.1 + 1).toNat).1); omega, ?_⟩
      have nzs := srd_nz (e := fun v => E3 f (upZ c k v)) kind (E1 f c).2.1 ((E2 f c).2.1 - (E1 f c).2.1 + 1).toNat (fun j _ => hz _)
      rw [← a.2] at nzs ⊢
      by_cases y : p3.2 = 0
      · rw [if_pos y, ← nzs y]
      · rw [if_neg y, u3 y]
    · by_cases y : t + ((E1 f c).1 + (E2 f c).1 + 1) ≤ 10000
      · have en := ends y
        rw [if_pos (show (E1 f c).2.2 = 1 ∧ (E2 f c).2.2 = 1 ∧ (E2 f c).2.1 - (E1 f c).2.1 < 64 by rw [← en.2.1, ← en.2.2]; exact w1)] at z
        have z : 10000 < t + ((E1 f c).1 + (E2 f c).1 + 1 + (srd (fun v => E3 f (upZ c k v)) kind (E1 f c).2.1 ((E2 f c).2.1 - (E1 f c).2.1 + 1).toNat).1) := z
        rw [en.2.1, en.2.2] at u4
        exact u4.2.2 (by omega)
      · exact u5 (endo (by omega))
  · have s1x : jv (e + 1) 286 83 [some (.ref 0), some (.int (nI k)), some (.long (lI q1.1)), none, some (.int (if q1.2 = 1 ∧ q2.2 = 1 ∧ q2.1 - q1.1 < 64 then 1 else 0)), some (.long (lI q2.1)), none, none, none, none, none, none, none, none] [] (shR, J2, fqR L2 (0, 0), pR) = some (none, (shR, J2, fqR L2 (0, 0), pR)) := by
      rw [if_neg w1, B286_83, if_pos rfl]
    refine ⟨J2, fqR L2 (0, 0), t2, (0, 0), ?_, st2, by rw [fqR_54], by rw [fqR_55], fN0, fun z => ?_, fun z => ?_⟩
    · rw [run, jgo_some (d := e + 1) rfl (s0.trans s1x)]
      dsimp only [Option.toList_some, Option.toList_none, List.cons_append, List.nil_append]
      rw [B285_280]
    · have en := ends (by omega)
      rw [if_neg (show ¬ ((E1 f c).2.2 = 1 ∧ (E2 f c).2.2 = 1 ∧ (E2 f c).2.1 - (E1 f c).2.1 < 64) by rw [← en.2.1, ← en.2.2]; exact w1)] at z ⊢
      exact ⟨en.1, rfl⟩
    · by_cases y : t + ((E1 f c).1 + (E2 f c).1 + 1) ≤ 10000
      · have en := ends y
        rw [if_neg (show ¬ ((E1 f c).2.2 = 1 ∧ (E2 f c).2.2 = 1 ∧ (E2 f c).2.1 - (E1 f c).2.1 < 64) by rw [← en.2.1, ← en.2.2]; exact w1)] at z
        have z : 10000 < t + ((E1 f c).1 + (E2 f c).1 + 1) := z
        omega
      · exact endo (by omega)
end EVAN
