/-! RULES: the second one's series -/
section EVAM
variable {wJ : (Nat → Nat → Int32) → (Nat → Nat → Int64) → Prop} {J0 : Nat → Nat → Int32} {L0 : Nat → Nat → Int64}
def nz (p : Int × Int) : Prop := p.2 = 0 → p.1 = 0
theorem fS_nz (n d : Int) : nz (fS n d) := by
  unfold nz fS
  by_cases q : (n ≤ HG ∧ -HG ≤ n) ∧ (d ≤ HG ∧ -HG ≤ d) ∧ d ≠ 0
  · rw [if_pos q]
    intro z
    exfalso
    have g := gcd_le (x := n.natAbs) (y := d.natAbs) (by omega)
    have z : ((d.natAbs : Int)).tdiv (Nat.gcd n.natAbs d.natAbs) = 0 := z
    have h := Int.natAbs_tdiv (d.natAbs : Int) (Nat.gcd n.natAbs d.natAbs)
    rw [z] at h
    have h2 : d.natAbs / Nat.gcd n.natAbs d.natAbs = 0 := by
      have : (0 : Int).natAbs = d.natAbs / Nat.gcd n.natAbs d.natAbs := h
      exact this.symm
    have := Nat.div_eq_zero_iff.mp h2
    omega
  · rw [if_neg q]; intro _; rfl
theorem fA_nz (k : Nat) (a b c f : Int) : nz (fA k a b c f) := by
  have z0 : nz (0, 0) := fun _ => rfl
  unfold fA
  by_cases q1 : b = 0 ∨ f = 0
  · rw [if_pos q1]; exact z0
  rw [if_neg q1]
  by_cases q2 : k = 2
  · rw [if_pos q2]
    cases fT a c with
    | none => exact z0
    | some x =>
      cases fT b f with
      | none => exact z0
      | some y => exact fS_nz x y
  · rw [if_neg q2]
    cases fT a f with
    | none => exact z0
    | some x =>
      cases fT b c with
      | none => exact z0
      | some y =>
        dsimp only
        by_cases q3 : k = 3
        · rw [if_pos q3]; exact fS_nz x y
        · rw [if_neg q3]
          cases fT b f with
          | none => exact z0
          | some z => exact fS_nz _ z
theorem srd_nz {e : Int → Nat × Int × Int} (kind : Nat) (a : Int) : ∀ m : Nat, (∀ j : Nat, j < m → nz (e (a + j)).2) → nz (srd e kind a m).2 := by
  intro m
  induction m with
  | zero =>
    intro _
    show nz (0, if kind = 0 then 1 else 0)
    intro _; rfl
  | succ j ih =>
    intro he
    have ih := ih (fun i hi => he i (by omega))
    have he := he j (by omega)
    unfold srd
    by_cases q : kind = 0
    · rw [if_pos q]; exact fA_nz _ _ _ _ _
    · rw [if_neg q]
      by_cases q1 : j = 0
      · rw [if_pos q1]; exact he
      · rw [if_neg q1]
        by_cases q2 : fC (e (a + j)).2.1 (e (a + j)).2.2 (srd e kind a j).2.1 (srd e kind a j).2.2 = 2
        · rw [if_pos q2]; intro _; rfl
        · rw [if_neg q2]
          by_cases q3 : fC (e (a + j)).2.1 (e (a + j)).2.2 (srd e kind a j).2.1 (srd e kind a j).2.2 = (if kind = 1 then 1 else -1)
          · rw [if_pos q3]; exact he
          · rw [if_neg q3]; exact ih
theorem fC_0 (a b x f : Int) (hf : f = 0) : fC a b x f = 2 := by unfold fC; rw [if_pos (Or.inr hf)]
theorem rSt.push {s t k : Nat} {rho : Nat → Nat} {c : Nat → Int} {J : Nat → Nat → Int32} {L : Nat → Nat → Int64} (hW : wStR wJ) (h : rSt wJ J0 L0 s rho c t J L) (hne : ∀ j, j < s → rho j ≠ k) {v : Int} (hv : fB v) : rSt wJ J0 L0 (s + 1) (upN rho s k) (upZ c k v) t J (j_up L 37 k (lI v)) := by
  refine ⟨h.1, h.2.1, h.2.2.1, fun q a b => by rw [j_up_cell _ (by omega)]; exact h.2.2.2.1 q a b, fun i hi => ?_, hW J L _ _ h.2.2.2.2.2 (fun _ _ => rfl) (fun _ _ _ _ => rfl) (fun q _ b' => j_up_cell _ b' _ _) (fun q _ _ => by rw [j_up_cell _ (by decide)])⟩
  by_cases z : i = s
  · subst z
    rw [upN_o, j_up_own, if_pos rfl]
    unfold upZ
    rw [if_pos rfl]
    exact ⟨rfl, hv⟩
  · rw [upN_n rho z, j_up_own, if_neg (hne i (by omega))]
    unfold upZ
    rw [if_neg (hne i (by omega))]
    exact h.2.2.2.2.1 i (by omega)
theorem rSt.pop {s t k : Nat} {rho : Nat → Nat} {c : Nat → Int} {J : Nat → Nat → Int32} {L : Nat → Nat → Int64} (hne : ∀ j, j < s → rho j ≠ k) {v : Int} (h : rSt wJ J0 L0 (s + 1) (upN rho s k) (upZ c k v) t J L) : rSt wJ J0 L0 s rho c t J L := by
  refine ⟨h.1, h.2.1, h.2.2.1, h.2.2.2.1, fun i hi => ?_, h.2.2.2.2.2⟩
  have := h.2.2.2.2.1 i (by omega)
  rw [upN_n rho (by omega)] at this
  unfold upZ at this
  rw [if_neg (hne i hi)] at this
  exact this
theorem rSp.seq {t N1 N2 t1 t2 : Nat} {p1 p2 q1 q2 P Q : Int × Int} (h1 : rSp t N1 p1 q1 t1) (h2 : rSp t1 N2 p2 q2 t2) (le : t1 ≤ 10000) (hQ : fN Q) (hPQ : q1 = p1 → q2 = p2 → Q = P) : rSp t (N1 + N2) P Q t2 := by
  refine ⟨hQ, fun z => ?_, fun z => ?_⟩
  · have a := h1.2.1 (by omega)
    have b := h2.2.1 (by omega)
    exact ⟨by omega, hPQ a.2 b.2⟩
  · by_cases z1 : t + N1 ≤ 10000
    · have a := h1.2.1 z1
      exact h2.2.2 (by omega)
    · have a := h1.2.2 (by omega)
      omega
theorem rounds_r {s k k3 kind w' : Nat} {rho : Nat → Nat} {c : Nat → Int} (hW : wStR wJ) {E3 : Nat → (Nat → Int) → Nat × Int × Int} (hs3 : valP wJ J0 L0 E3 w' (s + 1) (upN rho s k) k3) (hne : ∀ j, j < s → rho j ≠ k) (hn : k < 1400) (e0 : J0 21 k = nI (8 + kind)) (e3 : J0 24 k = nI k3) (hk : kind < 3) {f e T0 : Nat} (hf : w' ≤ f) (he : 71 + w' ≤ e) {a b : Int} (ha : fB a) (hb : fB b) (hab : b - a < 64) (l4 : Int32) : ∀ (r i t : Nat) (J : Nat → Nat → Int32) (L : Nat → Nat → Int64) (p : Int × Int) (x : Int) (o13 : Option Value), i + r = (b - a + 1).toNat → rSt wJ J0 L0 s rho c t J L → fB x → (p.2 ≠ 0 → x = p.1) → rSp T0 (srd (fun v => E3 f (upZ c k v)) kind a i).1 (srd (fun v => E3 f (upZ c k v)) kind a i).2 p t → ∃ J' L' t' p' x', jv e 286 113 [some (.ref 0), some (.int (nI k)), some (.long (lI a)), none, some (.int l4), some (.long (lI b)), none, some (.long (lI x)), none, some (.long (lI p.2)), none, some (.long (lI (a + i))), none, o13] [] (shR, J, L, pR) = some (none, (shR, J', fqR L' (if p'.2 = 0 then 0 else x', p'.2), pR)) ∧ rSt wJ J0 L0 s rho c t' J' L' ∧ (p'.2 ≠ 0 → x' = p'.1) ∧ rSp T0 (srd (fun v => E3 f (upZ c k v)) kind a (b - a + 1).toNat).1 (srd (fun v => E3 f (upZ c k v)) kind a (b - a + 1).toNat).2 p' t' ∧ (10000 < t → 10000 < t') := by
  have hH : HG = 1000000000000000000 := rfl
  have kd : (J0 21 k = 8 ↔ kind = 0) ∧ (J0 21 k = 9 ↔ kind = 1) := by
    rw [e0]
    rcases (show kind = 0 ∨ kind = 1 ∨ kind = 2 by omega) with rfl | rfl | rfl <;> decide
  have exit : ∀ (J : Nat → Nat → Int32) (L : Nat → Nat → Int64) (p : Int × Int) (x y : Int) (o13 : Option Value), fN p → jv e 286 287 [some (.ref 0), some (.int (nI k)), some (.long (lI a)), none, some (.int l4), some (.long (lI b)), none, some (.long (lI x)), none, some (.long (lI p.2)), none, some (.long (lI y)), none, o13] [] (shR, J, L, pR) = some (none, (shR, J, fqR L (if p.2 = 0 then 0 else x, p.2), pR)) := by
    intro J L p x y o13 hp
    rw [B286_287]
    by_cases z : p.2 = 0
    · rw [if_pos ((lI_0 hp.d).mpr z), B286_301, if_pos z]; rfl
    · rw [if_neg (fun q => z ((lI_0 hp.d).mp q)), B286_301, if_neg z]; rfl
  intro r
  induction r with
  | zero =>
    intro i t J L p x o13 hi hst hx hxp hp
    refine ⟨J, L, t, p, x, ?_, hst, hxp, by rw [← hi]; exact hp, fun z => z⟩
    rw [B286_113, if_pos ((lcmp_pos _ _).mpr (by rw [hb.i, lI_toInt (by have := ha.1; omega) (by have := ha.2; have := hb.2; omega)]; omega)), exit J L p x _ o13 hp.1]
  | succ r ih =>
    intro i t J L p x o13 hi hst hx hxp hp
    obtain ⟨e, rfl⟩ : ∃ e', e = e' + 3 := ⟨e - 3, by omega⟩
    have cv : fB (a + i) := by have := ha.1; have := hb.2; exact ⟨by omega, by omega⟩
    rw [B286_113, if_neg (fun z => by have := (lcmp_pos _ _).mp z; rw [hb.i, cv.i] at this; omega)]
    by_cases ov : 10000 < t
    · have h57 : J 0 57 ≠ 0 := by
        rcases hst.2.2.1 with z | z
        · omega
        · rw [z.2]; decide
      refine ⟨J, L, t, p, x, ?_, hst, hxp, ⟨hp.1, fun z => ?_, fun _ => ov⟩, fun z => z⟩
      · rw [if_neg h57, exit J L p x _ o13 hp.1]
      · have mono := srd_mono (fun v => E3 f (upZ c k v)) kind a i (r + 1)
        rw [hi] at mono
        have := (hp.2.1 (by omega)).1
        omega
    · have st1 := hst.push hW hne cv
      obtain ⟨J2, L2, t2, q2, r1, r2, r3, r4, r5, r6⟩ := hs3 f (upZ c k (a + i)) t (e + 2) J _ hf (by omega) st1
      have st2 := rSt.pop hne r2
      rw [if_pos (hst.on (by omega)), if_pos (j_in_nI hn (by decide)), if_pos (j_in_nI hn (by decide)), nI_clamp (by omega), hst.cell (k := 24) (by decide) (by decide), e3, jgo_some (d := e + 2) rfl r1]
      dsimp only [Option.toList_some, Option.toList_none, List.cons_append, List.nil_append]
      have fin : ∀ (J3 : Nat → Nat → Int32) (L3 : Nat → Nat → Int64) (P : Int × Int) (y : Int) (o : Option Value), fN P → fB y → (P.2 ≠ 0 → y = P.1) → rSt wJ J0 L0 s rho c t2 J3 L3 → (p = (srd (fun v => E3 f (upZ c k v)) kind a i).2 → q2 = (E3 f (upZ c k (a + i))).2 → P = (srd (fun v => E3 f (upZ c k v)) kind a (i + 1)).2) → ∃ J' L' t' p' x', jv (e + 3) 286 278 [some (.ref 0), some (.int (nI k)), some (.long (lI a)), none, some (.int l4), some (.long (lI b)), none, some (.long (lI y)), none, some (.long (lI P.2)), none, some (.long (lI (a + i))), none, o] [] (shR, J3, L3, pR) = some (none, (shR, J', fqR L' (if p'.2 = 0 then 0 else x', p'.2), pR)) ∧ rSt wJ J0 L0 s rho c t' J' L' ∧ (p'.2 ≠ 0 → x' = p'.1) ∧ rSp T0 (srd (fun v => E3 f (upZ c k v)) kind a (b - a + 1).toNat).1 (srd (fun v => E3 f (upZ c k v)) kind a (b - a + 1).toNat).2 p' t' ∧ (10000 < t → 10000 < t') := by
        intro J3 L3 P y o hP hy hyp st3 hPP
        rw [B286_278, show (1 : Int64) = lI 1 from rfl, lI_add, show a + (i : Int) + 1 = a + ((i + 1 : Nat) : Int) by omega]
        obtain ⟨J', L', t', p', x', w1, w2, w3, w4, w5⟩ := ih (i + 1) t2 J3 L3 P y o (by omega) st3 hy hyp (rSp.seq hp r5 (by omega) hP hPP)
        exact ⟨J', L', t', p', x', w1, w2, w3, w4, fun z => absurd z ov⟩
      rw [B286_146, if_pos (j_in_nI hn (by decide)), nI_clamp (by omega), r2.cell (k := 21) (by decide) (by decide)]
      rcases (show kind = 0 ∨ kind = 1 ∨ kind = 2 by omega) with rfl | rfl | rfl
      · -- a sum
        have hxa : fA 0 x p.2 q2.1 q2.2 = fA 0 p.1 p.2 q2.1 q2.2 := by
          by_cases z : p.2 = 0
          · unfold fA; rw [if_pos (Or.inl z), if_pos (Or.inl z)]
          · rw [hxp z]
        obtain ⟨xx, u1⟩ := act_r (e := e) (J := J2) (L' := L2) (k := 0) (by decide) hx hp.1.d r5.1.1 r5.1.d
        rw [if_pos (kd.1.mpr rfl), r3, r4, show (12 : Int32) = opR 0 from rfl, jgo_some (d := e + 2) rfl u1]
        dsimp only [Option.toList_some, Option.toList_none, List.cons_append, List.nil_append]
        rw [B286_175, fqR_54, fqR_55, hxa]
        refine fin _ _ (fA 0 p.1 p.2 q2.1 q2.2) (fA 0 p.1 p.2 q2.1 q2.2).1 _ (fA_b _ _ _ _ _) (fA_b _ _ _ _ _).1 (fun _ => rfl) ((st2.bg hW xx).fr hW _) (fun z1 z2 => ?_)
        rw [z1, z2]; rfl
      · rw [if_neg (fun z => absurd (kd.1.mp z) (by decide))]
        by_cases i0 : i = 0
        · subst i0
          rw [if_pos ((lcmp_e _ _).mpr (by rw [show a + ((0 : Nat) : Int) = a by omega])), r3, r4]
          refine fin J2 L2 q2 q2.1 _ r5.1 r5.1.1 (fun _ => rfl) st2 (fun z1 z2 => ?_)
          rw [z2]; rfl
        · obtain ⟨xx, u1⟩ := cmp3_r (e := e + 1) (J := J2) (L' := L2) r5.1.1 r5.1.d hx hp.1.d
          have hcx : fC q2.1 q2.2 x p.2 = fC q2.1 q2.2 p.1 p.2 := by
            by_cases z : p.2 = 0
            · rw [fC_0 _ _ _ _ z, fC_0 _ _ _ _ z]
            · rw [hxp z]
          have ne : lg_cmp (lI (a + i)) (lI a) ≠ 0 := fun z => by
            have := (lcmp_e _ _).mp z
            have h1 := cv.i
            rw [this, ha.i] at h1
            omega
          rw [if_neg ne, r3, r4, jgo_some (d := e + 2) rfl u1]
          dsimp only [Option.toList_some, Option.toList_none, List.cons_append, List.nil_append]
          rw [hcx, B286_228]
          have st3 := st2.bg hW xx
          by_cases y1 : fC q2.1 q2.2 p.1 p.2 = 2
          · rw [if_pos y1]
            refine fin _ L2 (0, 0) x _ fN0 hx (fun z => absurd rfl z) st3 (fun z1 z2 => ?_)
            rw [z1, z2] at y1
            conv => rhs; unfold srd
            rw [if_neg (by simp), if_neg i0, if_pos y1]
          · rw [if_neg y1, if_pos (j_in_nI hn (by decide)), nI_clamp (by omega), st3.cell (k := 21) (by decide) (by decide)]
            rw [if_pos (kd.2.mpr rfl)]
            have v4 := fC_v q2.1 q2.2 p.1 p.2
            by_cases y2 : fC q2.1 q2.2 p.1 p.2 = 1
            · rw [if_pos (show 0 < fC q2.1 q2.2 p.1 p.2 by rw [y2]; decide), B286_266, r3, r4]
              refine fin _ L2 q2 q2.1 _ r5.1 r5.1.1 (fun _ => rfl) st3 (fun z1 z2 => ?_)
              rw [z1, z2] at y1 y2
              rw [z2]
              conv => rhs; unfold srd
              rw [if_neg (by simp), if_neg i0, if_neg y1, if_pos (show _ = (if (1 : Nat) = 1 then (1 : Int32) else -1) from y2)]
            · rw [if_neg (show ¬ 0 < fC q2.1 q2.2 p.1 p.2 by rcases v4 with z | z | z | z; exact absurd z y1; all_goals (first | (rw [z]; decide) | exact absurd z y2))]
              refine fin _ L2 p x _ hp.1 hx hxp st3 (fun z1 z2 => ?_)
              rw [z1, z2] at y1 y2
              rw [z1]
              conv => rhs; unfold srd
              rw [if_neg (by simp), if_neg i0, if_neg y1, if_neg (show ¬ _ = (if (1 : Nat) = 1 then (1 : Int32) else -1) from y2)]
      · rw [if_neg (fun z => absurd (kd.1.mp z) (by decide))]
        by_cases i0 : i = 0
        · subst i0
          rw [if_pos ((lcmp_e _ _).mpr (by rw [show a + ((0 : Nat) : Int) = a by omega])), r3, r4]
          refine fin J2 L2 q2 q2.1 _ r5.1 r5.1.1 (fun _ => rfl) st2 (fun z1 z2 => ?_)
          rw [z2]; rfl
        · obtain ⟨xx, u1⟩ := cmp3_r (e := e + 1) (J := J2) (L' := L2) r5.1.1 r5.1.d hx hp.1.d
          have hcx : fC q2.1 q2.2 x p.2 = fC q2.1 q2.2 p.1 p.2 := by
            by_cases z : p.2 = 0
            · rw [fC_0 _ _ _ _ z, fC_0 _ _ _ _ z]
            · rw [hxp z]
          have ne : lg_cmp (lI (a + i)) (lI a) ≠ 0 := fun z => by
            have := (lcmp_e _ _).mp z
            have h1 := cv.i
            rw [this, ha.i] at h1
            omega
          rw [if_neg ne, r3, r4, jgo_some (d := e + 2) rfl u1]
          dsimp only [Option.toList_some, Option.toList_none, List.cons_append, List.nil_append]
          rw [hcx, B286_228]
          have st3 := st2.bg hW xx
          by_cases y1 : fC q2.1 q2.2 p.1 p.2 = 2
          · rw [if_pos y1]
            refine fin _ L2 (0, 0) x _ fN0 hx (fun z => absurd rfl z) st3 (fun z1 z2 => ?_)
            rw [z1, z2] at y1
            conv => rhs; unfold srd
            rw [if_neg (by simp), if_neg i0, if_pos y1]
          · rw [if_neg y1, if_pos (j_in_nI hn (by decide)), nI_clamp (by omega), st3.cell (k := 21) (by decide) (by decide)]
            rw [if_neg (fun z => absurd (kd.2.mp z) (by decide))]
            have v4 := fC_v q2.1 q2.2 p.1 p.2
            by_cases y2 : fC q2.1 q2.2 p.1 p.2 = -1
            · rw [if_pos (show fC q2.1 q2.2 p.1 p.2 < 0 by rw [y2]; decide), B286_266, r3, r4]
              refine fin _ L2 q2 q2.1 _ r5.1 r5.1.1 (fun _ => rfl) st3 (fun z1 z2 => ?_)
              rw [z1, z2] at y1 y2
              rw [z2]
              conv => rhs; unfold srd
              rw [if_neg (by simp), if_neg i0, if_neg y1, if_pos (show _ = (if (2 : Nat) = 1 then (1 : Int32) else -1) from y2)]
            · rw [if_neg (show ¬ fC q2.1 q2.2 p.1 p.2 < 0 by rcases v4 with z | z | z | z; exact absurd z y1; all_goals (first | (rw [z]; decide) | exact absurd z y2))]
              refine fin _ L2 p x _ hp.1 hx hxp st3 (fun z1 z2 => ?_)
              rw [z1, z2] at y1 y2
              rw [z1]
              conv => rhs; unfold srd
              rw [if_neg (by simp), if_neg i0, if_neg y1, if_neg (show ¬ _ = (if (2 : Nat) = 1 then (1 : Int32) else -1) from y2)]
end EVAM
