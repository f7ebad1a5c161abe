/-! RULES: every number and every condition in the first one -/
section EVAK
variable {wI : (Nat → Nat → Int32) → (Nat → Nat → Int64) → Prop} {I0 : Nat → Nat → Int32} {L0 : Nat → Nat → Int64} {R : Nat → Nat → Int32} {V : Nat → Int64} {ln : Nat → Nat} {tq : Nat → Int × Int → Int × Int} {wd : Nat → Int × Int} {wo : Nat → Int × Int → Int × Int} {pa pb pu : Option Nat}
variable {nl nt : Nat} {wl : Nat → Nat}
theorem chL_kd {C R : Nat → Nat → Int32} {kd : Nat} {sub : Nat → Nat → Nat → Prop} : ∀ (j w n last k : Nat), chL C R kd sub j w n last k → C 0 n = nI kd := by
  intro j
  induction j with
  | zero => intro w n last k ⟨_, _, _, a4, _⟩; exact a4
  | succ j ih => intro w n last k ⟨_, _, _, _, w', l', k', n2, k2, _, b2, _⟩; exact ih w' n l' k' b2
theorem nI_64 {v : Nat} (h : v < 2 ^ 31) : (nI v).toInt64.toInt = v := by rw [Int32.toInt_toInt64, nI_toInt h]
theorem tSp.inc {t N K t1 : Nat} {p q P Q : Int} (h : tSp t N q p K t1) (hQ : v3 Q) (hPQ : q = p → Q = P) : tSp t (N + 1) Q P (K + 1) (t1 + 1) := by
  refine ⟨hQ, fun z => ?_, fun z => ?_⟩
  · have a := h.2.1 (by omega); exact ⟨by omega, hPQ a.2⟩
  · by_cases z1 : t + N ≤ 10000
    · have a := h.2.1 z1; exact ⟨by omega, by omega⟩
    · have a := h.2.2 (by omega); exact ⟨by omega, by omega⟩
theorem kH_s (h : Nat) : kH (h + 1) = kH h + 1300 := by unfold kH; omega
theorem eval_c38 {m0 : Nat} (hE : envC 38 wI I0 L0 nt tq wd wo pa pb pu) (hnl : nl ≤ 40) (hl : ltR (fun c i => I0 (38 + 1 + c) i) R V nl wl ln) (hlt : ∀ i, i < nl → ∃ n mt, mt ≤ nt ∧ rel (fun c i => I0 (38 + 1 + c) i) R V i mt (wl i) 75 true (wl (i + 1)) 0 rho0 n (ln i)) (hm0 : m0 ≤ nl) (hsv : letC I0 L0 m0 (fun i => ev R V ln tq wd wo (wl (i + 1)) true (fun _ => 0) (ln i))) : ∀ h, h ≤ 75 → ∀ m mt w s (rho : Nat → Nat) n k, m ≤ m0 → mt ≤ nt → w ≤ 1200 → s ≤ 24 → (rel (fun c i => I0 (38 + 1 + c) i) R V m mt (wl m) h true w s rho n k → numP 38 wI I0 L0 pa pb pu (fun f c => ev R V ln tq wd wo f true c k) h w s rho n) ∧ (rel (fun c i => I0 (38 + 1 + c) i) R V m mt (wl m) h false w s rho n k → truP 38 wI I0 L0 pa pb pu (fun f c => ev R V ln tq wd wo f false c k) h w s rho n) := by
  obtain ⟨hW, w1, w2, w3, hnt, o1, o2, o3⟩ := id hE
  intro h
  induction h with
  | zero => intro _ m mt w s rho n k _ _ _ _; exact ⟨fun z => z.elim, fun z => z.elim⟩
  | succ h ih =>
    intro hh m mt w s rho n k hm hmt hw hs
    have ihN : ∀ w' s' (rho' : Nat → Nat) n' k', w' ≤ 1200 → s' ≤ 24 → rel (fun c i => I0 (38 + 1 + c) i) R V m mt (wl m) h true w' s' rho' n' k' → numP 38 wI I0 L0 pa pb pu (fun f c => ev R V ln tq wd wo f true c k') h w' s' rho' n' := fun w' s' rho' n' k' a b q => (ih (by omega) m mt w' s' rho' n' k' hm hmt a b).1 q
    have ihT : ∀ w' s' (rho' : Nat → Nat) n' k', w' ≤ 1200 → s' ≤ 24 → rel (fun c i => I0 (38 + 1 + c) i) R V m mt (wl m) h false w' s' rho' n' k' → truP 38 wI I0 L0 pa pb pu (fun f c => ev R V ln tq wd wo f false c k') h w' s' rho' n' := fun w' s' rho' n' k' a b q => (ih (by omega) m mt w' s' rho' n' k' hm hmt a b).2 q
    constructor
    · intro hr f c t D d I L hf ht hD hd hst
      obtain ⟨a1, a2, z⟩ := hr
      by_cases ov : 10000 < t
      · obtain ⟨d, rfl⟩ : ∃ d', d = d' + 1 := ⟨d - 1, by omega⟩
        exact ⟨I, fqC L (0, 0), t, (0, 0), num_over38 hW hst ov (by omega) a1 (by omega), hst.fr hW _, by rw [fqC_6], by rw [fqC_7], nSp.ov _ ov, fun _ => rfl⟩
      have t0 : t ≤ 10000 := by omega
      -- it is enough to say what comes behind the first look
      suffices key : ∃ I' L' t' q, jv d 147 0 [some (.ref 116), some (.int (nI n)), some (.int (nI D)), none] [] (shC, I, L, pX pa pb pu (some 38)) = some (none, (shC, I', L', pX pa pb pu (some 38))) ∧ cSt wI I0 L0 s rho c t' I' L' ∧ L' 116 6 = lI q.1 ∧ L' 116 7 = lI q.2 ∧ nSp t (ev R V ln tq wd wo f true c k).1 (ev R V ln tq wd wo f true c k).2 q (kH (h + 1)) t' by
        obtain ⟨I', L', t', q, k1, k2, k3, k4, k5⟩ := key
        exact ⟨I', L', t', q, k1, k2, k3, k4, k5, fun y => absurd y ov⟩
      obtain ⟨d, rfl⟩ : ∃ d', d = d' + 1 := ⟨d - 1, by omega⟩
      rw [num_at38 hst t0 a1 (by omega), B147_26_g38, if_pos rfl, if_pos (j_in_nI a1 (by decide)), if_pos (j_in_nI a1 (by decide)), nI_clamp (by omega), hst.cell (k := 39) (by decide), hst.cell (k := 43) (by decide), hst.cell (k := 40) (by decide), hst.2.2.1, show nI t + 1 = nI (t + 1) from nI_add t 1, show nI D + 1 = nI (D + 1) from nI_add D 1]
      have st0 := hst.fr hW (0, 0)
      have st1 := st0.tk hW (t + 1)
      rcases z with ⟨kd, j, last, c1, c2, c3⟩ | ⟨w', lw, z⟩
      · -- a chain
        rcases c1 with ⟨_, rfl⟩ | ⟨c1, _⟩
        case inr => exact absurd c1 (by decide)
        have k0 : I0 39 n = nI 7 := chL_kd j w n last k c2
        obtain ⟨I1, L1, t1, q1, o5, o6, o7, o8, r1, r2, r3, r4, r5, r6⟩ := chain_c38 (c := c) (ln := ln) (tq := tq) (wd := wd) (wo := wo) hW (fun w' n' k' y q => ihN w' s rho n' k' y hs q) j w n last k c2 hw f t D d I _ (by omega) t0 (by omega) (by omega) (by omega) st0
        have l4 : I0 42 last = -1 := c3
        refine ⟨I1, L1, t1, q1, ?_, r2, r3, r4, r5.up (by have := kH_s h; omega)⟩
        have e149 : jv d 149 0 [some (.ref 116), some (.int (nI n)), some (.int (nI D)), none, none, none, none, none, none] [] (shC, I, fqC L (0, 0), pX pa pb pu (some 38)) = some (none, (shC, I1, L1, pX pa pb pu (some 38))) := by
          rw [r1, l4, B149_21_g38, if_pos (show nI (j + 1) < (1201 : Int32) from nI_lt (b := 1201) (by omega) (by decide)), if_pos (by decide), B149_112_g38]
        rw [k0, if_neg (by decide), if_neg (by decide), if_neg (by decide), if_neg (by decide), if_neg (by decide), if_neg (by decide), if_neg (by decide), if_pos (by decide), jgo_some (d := d) rfl e149]
        dsimp only [Option.toList_some, Option.toList_none, List.cons_append, List.nil_append]
        rw [B147_282_g38, B147_300_g38]
      rcases z with ⟨_, z⟩ | ⟨z, _⟩
      case inr => exact absurd z (by decide)
      obtain ⟨f, rfl⟩ : ∃ g, f = g + 1 := ⟨f - 1, by omega⟩
      rw [ev_t]
      rcases z with ⟨k0, o, v, v1, v2, v3'⟩ | ⟨k0, o, i, i1, i2, i3, i4⟩ | ⟨k0, o, i, i1, i2, i3, i4⟩ | ⟨k0, o, i, n1, k1, i1, i2, e1, i3, e2, q⟩ | ⟨k0, o, i, i1, i2, e1⟩ | ⟨k0, o, i, n1, k1, i1, i2, e1, i3, e2, q⟩ | ⟨k0, o, n1, k1, i3, e1, q⟩ | ⟨k0, o, n1, k1, n2, k2, n3, k3, j1, e1, q1, j2, e2, q2, j3, e3, q3⟩ | ⟨i, n1, k1, n2, k2, n3, k3, w2', i3, k0, o, j4, i24, lw2, j1, e1, q1, j2, e2, q2, j3, e3, q3, hne⟩
      · -- a number
        have k0 : I0 39 n = 0 := k0
        have v2 : I0 43 n = nI v := v2
        obtain ⟨d, rfl⟩ : ∃ d', d = d' + 1 := ⟨d - 1, by omega⟩
        have hv : fB (v : Int) := ⟨by have : HG = 1000000000000000000 := rfl; omega, by have : HG = 1000000000000000000 := rfl; omega⟩
        have e162 := set_c (d := d) (I := j_up I 116 8 (nI (t + 1))) (L := fqC L (0, 0)) (pa := pa) (pb := pb) (pu := pu) (pw := some 38) ((nI v).toInt64) 1
        rw [nI_64 (by omega), show (1 : Int64).toInt = 1 from rfl, fS_1 hv] at e162
        refine ⟨_, _, t + 1, (v, 1), ?_, st1.fr hW (v, 1), by rw [fqC_6], by rw [fqC_7], ?_⟩
        · rw [k0, v2, if_pos (by decide), jgo_some (d := d + 1) rfl e162]
          dsimp only [Option.toList_some, Option.toList_none, List.cons_append, List.nil_append]
          rw [B147_117_g38, B147_300_g38]
        · rw [if_pos o, v3', lgN_toInt (by omega)]
          exact nSp.one (fN1 hv) t0 (by unfold kH; omega)
      · -- a counter
        have k0 : I0 39 n = 1 := k0
        have i2 : I0 43 n = nI i := i2
        obtain ⟨d, rfl⟩ : ∃ d', d = d' + 1 := ⟨d - 1, by omega⟩
        have cu := st0.2.2.2.2.1 i i1
        have e162 := set_c (d := d) (I := j_up I 116 8 (nI (t + 1))) (L := fqC L (0, 0)) (pa := pa) (pb := pb) (pu := pu) (pw := some 38) (lI (c (rho i))) 1
        rw [cu.2.i, show (1 : Int64).toInt = 1 from rfl, fS_1 cu.2] at e162
        refine ⟨_, _, t + 1, (c (rho i), 1), ?_, st1.fr hW (c (rho i), 1), by rw [fqC_6], by rw [fqC_7], ?_⟩
        · rw [k0, i2, if_neg (by decide), if_pos (by decide), if_pos (j_in_nI (by omega) (by decide)), nI_clamp (n := i) (by omega), cu.1, jgo_some (d := d + 1) rfl e162]
          dsimp only [Option.toList_some, Option.toList_none, List.cons_append, List.nil_append]
          rw [B147_141_g38, B147_300_g38]
        · rw [if_neg (by rw [o]; decide), if_pos o, nN i3 i4]
          exact nSp.one (fN1 cu.2) t0 (by unfold kH; omega)
      · -- a let
        have k0 : I0 39 n = 2 := k0
        have i2 : I0 43 n = nI i := i2
        have hsvi := hsv.2 i (by omega)
        dsimp only at hsvi
        obtain ⟨sv1, x, q, x1, q1, q6, q7, y1, y2⟩ := hsvi
        obtain ⟨n1, mt1, hmt1, qr⟩ := hlt i (by omega)
        have wle : wl (i + 1) ≤ f := by have := hl.1 (i + 1) m (by omega); omega
        have cg := (ev_cg (tq := tq) (wd := wd) (wo := wo) hnl hl (wl (i + 1))).1 i mt1 75 true 0 rho0 n1 (ln i) (by omega) qr f (wl (i + 1)) c (fun _ => 0) wle (Nat.le_refl _) (fun i hi => absurd hi (Nat.not_lt_zero _))
        have q4 : (R 1 k).toNatClampNeg = i := by rw [i3]; exact nI_clamp (by omega)
        have u120 : I 120 i = nI x := by rw [hst.1 120 (Or.inr (by decide)) (by decide)]; exact x1
        have u118 : fqC L (0, 0) 118 i = lI q.1 := by rw [st0.2.2.2.1 118 (Or.inr (by decide)) (by decide) (by decide)]; exact q6
        have u119 : fqC L (0, 0) 119 i = lI q.2 := by rw [st0.2.2.2.1 119 (Or.inr (by decide)) (by decide) (by decide)]; exact q7
        have xb : x ≤ 10001 := by
          by_cases y : (ev R V ln tq wd wo (wl (i + 1)) true (fun _ => 0) (ln i)).1 ≤ 10000
          · have := (y1 y).1; omega
          · have := y2 (by omega); omega
        refine ⟨j_up I 116 8 (nI (t + (1 + x))), fqC (fqC L (0, 0)) q, t + (1 + x), q, ?_, (st0.tk hW (t + (1 + x))).fr hW q, by rw [fqC_6], by rw [fqC_7], ?_⟩
        · have e148 : jv d 148 0 [some (.ref 116), some (.int (nI i))] [] (shC, I, fqC L (0, 0), pX pa pb pu (some 38)) = some (none, (shC, j_up I 116 8 (nI (t + (1 + x))), fqC (fqC L (0, 0)) q, pX pa pb pu (some 38))) := by
            have j24 := j_in_nI (c := i) (n := 40) (by have := hsv.1; omega) (by decide)
            rw [B148_0, if_pos j24, if_pos j24, if_pos j24, nI_clamp (by have := hsv.1; omega), u120, hst.2.2.1, show (1 : Int32) + nI x = nI (1 + x) from nI_add 1 x, nI_add, u118, j_up_cell _ (show 119 ≠ 116 by decide), u119]
            rfl
          rw [k0, i2, if_neg (by decide), if_neg (by decide), if_pos (by decide), jgo_some (d := d) rfl e148]
          dsimp only [Option.toList_some, Option.toList_none, List.cons_append, List.nil_append]
          rw [B147_149_g38, B147_300_g38]
        · rw [if_neg (by rw [o]; decide), if_neg (by rw [o]; decide), if_pos o, q4, cg]
          refine ⟨q1, fun z => ?_, fun z => ?_⟩
          · have z : t + ((ev R V ln tq wd wo (wl (i + 1)) true (fun _ => 0) (ln i)).1 + 1) ≤ 10000 := z
            have a := y1 (by omega)
            exact ⟨by show t + (1 + x) = t + ((ev R V ln tq wd wo (wl (i + 1)) true (fun _ => 0) (ln i)).1 + 1); omega, a.2⟩
          · have z : 10000 < t + ((ev R V ln tq wd wo (wl (i + 1)) true (fun _ => 0) (ln i)).1 + 1) := z
            by_cases y : (ev R V ln tq wd wo (wl (i + 1)) true (fun _ => 0) (ln i)).1 ≤ 10000
            · have a := y1 y
              exact ⟨by omega, by unfold kH; omega⟩
            · have a := y2 (by omega)
              exact ⟨by omega, by unfold kH; omega⟩
      · -- a table
        have k0 : I0 39 n = 3 := k0
        have i2 : I0 43 n = nI i := i2
        have i3 : I0 40 n = nI n1 := i3
        have q4 : (R 1 k).toNatClampNeg = i := by rw [e1]; exact nI_clamp (by omega)
        obtain ⟨I1, L1, t1, q1, r1, r2, r3, r4, r5, r6⟩ := ihN w' s rho n1 k1 (by omega) hs q f c t (D + 1) d I _ (by omega) (by omega) (by omega) (by omega) st0
        have st2 := r2.tk hW (t1 + 1)
        have e153 := o3 d s rho c (t1 + 1) _ L1 i q1 (by omega) (by omega) st2 r5.1 r3 r4
        refine ⟨_, _, t1 + 1, tq i q1, ?_, st2.fr hW (tq i q1), by rw [fqC_6], by rw [fqC_7], ?_⟩
        · rw [k0, i2, i3, if_neg (by decide), if_neg (by decide), if_neg (by decide), if_pos (by decide), if_pos (j_in_nI a1 (by decide)), jgo_some (d := d) rfl r1]
          dsimp only [Option.toList_some, Option.toList_none, List.cons_append, List.nil_append]
          rw [B147_168_g38, r2.2.2.1, show nI t1 + 1 = nI (t1 + 1) from nI_add t1 1, jgo_some (d := d) rfl e153]
          dsimp only [Option.toList_some, Option.toList_none, List.cons_append, List.nil_append]
          rw [B147_183_g38, B147_300_g38]
        · rw [if_neg (by rw [o]; decide), if_neg (by rw [o]; decide), if_neg (by rw [o]; decide), if_pos o, q4, nN e2 (rel_k q).2]
          exact (nSp.inc r5 (w3 i q1 (by omega)) (fun z => by rw [z])).up (by have := kH_s h; omega)
      · -- a word
        have k0 : I0 39 n = 4 := k0
        have i2 : I0 43 n = nI i := i2
        have q4 : (R 1 k).toNatClampNeg = i := by rw [e1]; exact nI_clamp (by omega)
        obtain ⟨I1, L1, r1, r2⟩ := o1 d s rho c (t + 1) _ _ i (by omega) i1 st1
        refine ⟨I1, fqC L1 (wd i), t + 1, wd i, ?_, r2.fr hW (wd i), by rw [fqC_6], by rw [fqC_7], ?_⟩
        · rw [k0, i2, if_neg (by decide), if_neg (by decide), if_neg (by decide), if_neg (by decide), if_pos (by decide), jgo_some (d := d) rfl r1]
          dsimp only [Option.toList_some, Option.toList_none, List.cons_append, List.nil_append]
          rw [B147_201_g38, B147_300_g38]
        · rw [if_neg (by rw [o]; decide), if_neg (by rw [o]; decide), if_neg (by rw [o]; decide), if_neg (by rw [o]; decide), if_pos o, q4]
          exact nSp.one (w1 i i1) t0 (by unfold kH; omega)
      · -- a word of something
        have k0 : I0 39 n = 5 := k0
        have i2 : I0 43 n = nI (13 + i) := i2
        have i3 : I0 40 n = nI n1 := i3
        have q4 : (R 1 k).toNatClampNeg = i := by rw [e1]; exact nI_clamp (by omega)
        obtain ⟨I1, L1, t1, q1, r1, r2, r3, r4, r5, r6⟩ := ihN w' s rho n1 k1 (by omega) hs q f c t (D + 1) d I _ (by omega) (by omega) (by omega) (by omega) st0
        have st2 := r2.tk hW (t1 + 1)
        obtain ⟨I2, L2, p1, p2⟩ := o2 d s rho c (t1 + 1) _ L1 i q1 (by omega) i1 st2 r5.1 r3 r4
        refine ⟨I2, fqC L2 (wo i q1), t1 + 1, wo i q1, ?_, p2.fr hW (wo i q1), by rw [fqC_6], by rw [fqC_7], ?_⟩
        · rw [k0, i2, i3, if_neg (by decide), if_neg (by decide), if_neg (by decide), if_neg (by decide), if_neg (by decide), if_pos (by decide), if_pos (j_in_nI a1 (by decide)), jgo_some (d := d) rfl r1]
          dsimp only [Option.toList_some, Option.toList_none, List.cons_append, List.nil_append]
          rw [B147_220_g38, r2.2.2.1, show nI t1 + 1 = nI (t1 + 1) from nI_add t1 1, jgo_some (d := d) rfl p1]
          dsimp only [Option.toList_some, Option.toList_none, List.cons_append, List.nil_append]
          rw [B147_235_g38, B147_300_g38]
        · rw [if_neg (by rw [o]; decide), if_neg (by rw [o]; decide), if_neg (by rw [o]; decide), if_neg (by rw [o]; decide), if_neg (by rw [o]; decide), if_pos o, q4, nN e2 (rel_k q).2]
          exact (nSp.inc r5 (w2 i q1 i1) (fun z => by rw [z])).up (by have := kH_s h; omega)
      · -- minus
        have k0 : I0 39 n = 6 := k0
        have i3 : I0 40 n = nI n1 := i3
        obtain ⟨I1, L1, t1, q1, r1, r2, r3, r4, r5, r6⟩ := ihN w' s rho n1 k1 (by omega) hs q f c t (D + 1) d I _ (by omega) (by omega) (by omega) (by omega) st0
        have st2 := (r2.tk hW (t1 + 1)).fr hW (-q1.1, q1.2)
        have nq : fN (-q1.1, q1.2) := ⟨⟨by have := r5.1.1.2; show -HG ≤ -q1.1; omega, by have := r5.1.1.1; show -q1.1 ≤ HG; omega⟩, r5.1.2⟩
        refine ⟨j_up I1 116 8 (nI (t1 + 1)), fqC L1 (-q1.1, q1.2), t1 + 1, (-q1.1, q1.2), ?_, st2, by rw [fqC_6], by rw [fqC_7], ?_⟩
        · have eL : j_up L1 116 6 (-(L1 116 6)) = fqC L1 (-q1.1, q1.2) := by
            unfold fqC
            rw [r3, lI_neg, show lI (-q1.1, q1.2).2 = j_up L1 116 6 (lI (-q1.1, q1.2).1) 116 7 by rw [j_up_own, if_neg (by decide), r4], j_up_id]
          rw [k0, i3, if_neg (by decide), if_neg (by decide), if_neg (by decide), if_neg (by decide), if_neg (by decide), if_neg (by decide), if_pos (by decide), if_pos (j_in_nI a1 (by decide)), jgo_some (d := d) rfl r1]
          dsimp only [Option.toList_some, Option.toList_none, List.cons_append, List.nil_append]
          rw [B147_254_g38, r2.2.2.1, show nI t1 + 1 = nI (t1 + 1) from nI_add t1 1, eL, B147_300_g38]
        · rw [if_neg (by rw [o]; decide), if_neg (by rw [o]; decide), if_neg (by rw [o]; decide), if_neg (by rw [o]; decide), if_neg (by rw [o]; decide), if_neg (by rw [o]; decide), if_neg (by rw [o]; decide), if_pos o, nN e1 (rel_k q).2]
          exact (nSp.inc r5 nq (fun z => by rw [z])).up (by have := kH_s h; omega)
      · -- a choice
        have k0 : I0 39 n = 8 := k0
        obtain ⟨I1, L1, t1, q1', r1, r2, r3, r4, r5⟩ := choice_c38 (c := c) hW (ihT w' s rho n1 k1 (by omega) hs q1) (ihN w' s rho n2 k2 (by omega) hs q2) (ihN w' s rho n3 k3 (by omega) hs q3) j1 j2 j3 a1 (f := f) (D := D) (d := d) (by omega) t0 (by omega) (by omega) (by omega) st0
        refine ⟨I1, L1, t1, q1', ?_, r2, r3, r4, ?_⟩
        · rw [k0, if_neg (by decide), if_neg (by decide), if_neg (by decide), if_neg (by decide), if_neg (by decide), if_neg (by decide), if_neg (by decide), if_neg (by decide), if_pos (by decide), jgo_some (d := d) rfl r1]
          dsimp only [Option.toList_some, Option.toList_none, List.cons_append, List.nil_append]
          rw [B147_291_g38, B147_300_g38]
        · rw [if_neg (by rw [o]; decide), if_neg (by rw [o]; decide), if_neg (by rw [o]; decide), if_neg (by rw [o]; decide), if_neg (by rw [o]; decide), if_neg (by rw [o]; decide), if_pos o, nN e1 (rel_k q1).2, nN e2 (rel_k q2).2, nN e3 (rel_k q3).2]
          exact r5.up (Nat.le_of_eq (kH_s h).symm)
      · -- a series
        have k0 : I0 39 n = nI (9 + i) := k0
        obtain ⟨I1, L1, t1, q1', r1, r2, r3, r4, r5⟩ := series_c38 (c := c) (kind := i) (k := k) hW (ihN w2' s rho n1 k1 (by omega) hs q1) (ihN w2' s rho n2 k2 (by omega) hs q2) (ihN w2' (s + 1) (upN rho s k) n3 k3 (by omega) (by omega) q3) hne i24 k0 i3 j1 j2 j3 j4 a1 (f := f) (D := D) (d := d) (by omega) t0 (by omega) (by omega) (by omega) st0
        refine ⟨I1, L1, t1, q1', ?_, r2, r3, r4, ?_⟩
        · have nk : ∀ j : Int32, (j = Int32.ofInt 0 ∨ j = Int32.ofInt 1 ∨ j = Int32.ofInt 2 ∨ j = Int32.ofInt 3 ∨ j = Int32.ofInt 4 ∨ j = Int32.ofInt 5 ∨ j = Int32.ofInt 6 ∨ j = Int32.ofInt 7 ∨ j = Int32.ofInt 8) → I0 39 n ≠ j := by
            intro j hj z
            rw [k0] at z
            subst z
            rcases (show i = 0 ∨ i = 1 ∨ i = 2 by omega) with y | y | y <;> subst y <;> exact absurd hj (by decide)
          rw [if_neg (nk _ (by decide)), if_neg (nk _ (by decide)), if_neg (nk _ (by decide)), if_neg (nk _ (by decide)), if_neg (nk _ (by decide)), if_neg (nk _ (by decide)), if_neg (nk _ (by decide)), if_neg (nk _ (by decide)), if_neg (nk _ (by decide)), jgo_some (d := d) rfl r1]
          dsimp only [Option.toList_some, Option.toList_none, List.cons_append, List.nil_append]
          rw [B147_300_g38]
        · have no : ∀ j : Int32, (j = 1 ∨ j = 2 ∨ j = 3 ∨ j = 4 ∨ j = 5 ∨ j = 6 ∨ j = 7 ∨ j = 11 ∨ j = 12 ∨ j = 13 ∨ j = 14 ∨ j = 15) → R 0 k ≠ j := by
            intro j hj z
            rw [o] at z
            subst z
            rcases (show i = 0 ∨ i = 1 ∨ i = 2 by omega) with y | y | y <;> subst y <;> exact absurd hj (by decide)
          have kd : (if R 0 k = 8 then 0 else if R 0 k = 9 then 1 else 2) = i := by
            rw [o]
            rcases (show i = 0 ∨ i = 1 ∨ i = 2 by omega) with y | y | y <;> subst y <;> rfl
          rw [if_neg (no 1 (by decide)), if_neg (no 2 (by decide)), if_neg (no 3 (by decide)), if_neg (no 4 (by decide)), if_neg (no 5 (by decide)), if_neg (no 6 (by decide)), if_neg (no 7 (by decide)), if_neg (no 11 (by decide)), if_neg (show ¬ (R 0 k = 12 ∨ R 0 k = 13 ∨ R 0 k = 14 ∨ R 0 k = 15) from fun z => by rcases z with z | z | z | z; exact no 12 (by decide) z; exact no 13 (by decide) z; exact no 14 (by decide) z; exact no 15 (by decide) z), nN e1 (rel_k q1).2, nN e2 (rel_k q2).2, nN e3 (rel_k q3).2, kd]
          exact r5.up (Nat.le_of_eq (kH_s h).symm)
    · intro hr f c t D d I L hf ht hD hd hst
      obtain ⟨a1, a2, z⟩ := hr
      obtain ⟨d, rfl⟩ : ∃ d', d = d' + 1 := ⟨d - 1, by omega⟩
      rw [tru_at38 hst (by omega) a1 (by omega)]
      by_cases ov : 10000 < t
      · rw [if_pos ov]
        exact ⟨I, L, t, 2, rfl, hst, tSp.ov _ ov, fun _ => rfl⟩
      have t0 : t ≤ 10000 := by omega
      rw [if_neg ov]
      suffices key : ∃ I' L' t' v, jv (d + 1) 144 22 [some (.ref 116), some (.int (nI n)), some (.int (nI D)), none] [.int 0] (shC, I, L, pX pa pb pu (some 38)) = some (some (.int (vI v)), (shC, I', L', pX pa pb pu (some 38))) ∧ cSt wI I0 L0 s rho c t' I' L' ∧ tSp t (ev R V ln tq wd wo f false c k).1 v (ev R V ln tq wd wo f false c k).2.1 (kH (h + 1)) t' by
        obtain ⟨I', L', t', v, k1, k2, k3⟩ := key
        exact ⟨I', L', t', v, k1, k2, k3, fun y => absurd y ov⟩
      rw [B144_22_g38, if_pos rfl, if_pos (j_in_nI a1 (by decide)), nI_clamp (by omega), hst.cell (k := 39) (by decide), hst.cell (k := 40) (by decide), show nI D + 1 = nI (D + 1) from nI_add D 1]
      rcases z with ⟨kd, j, last, c1, c2, c3⟩ | ⟨w', lw, z⟩
      · rcases c1 with ⟨c1, _⟩ | ⟨_, c1⟩
        case inl => exact absurd c1 (by decide)
        have k0 : I0 39 n = nI kd := chL_kd j w n last k c2
        have l4 : I0 42 last = -1 := c3
        rcases c1 with rfl | rfl
        · obtain ⟨I1, L1, t1, v, o7, r1, r2, r5, r6⟩ := chain_t38 (c := c) (ln := ln) (tq := tq) (wd := wd) (wo := wo) (st := 1) hW (Or.inl ⟨rfl, rfl⟩) (fun w' n' k' y q => ihT w' s rho n' k' y hs q) j w n last k c2 hw f t D d I L (by omega) t0 (by omega) (by omega) (by omega) hst
          refine ⟨I1, L1, t1, v, ?_, r2, r5.up (by have := kH_s h; omega)⟩
          have e145 : jv d 145 0 [some (.ref 116), some (.int (nI n)), some (.int (nI D)), some (.int 1), none, none, none, none] [] (shC, I, L, pX pa pb pu (some 38)) = some (some (.int (vI v)), (shC, I1, L1, pX pa pb pu (some 38))) := by
            rw [show (1 : Int32) = vI 1 from rfl, r1, l4, B145_24_g38, if_pos (show nI (j + 1) < (1201 : Int32) from nI_lt (b := 1201) (by omega) (by decide)), if_pos (by decide), B145_114_g38]
          rw [k0, if_pos (by decide), jgo_some (d := d) rfl e145]
          dsimp only [Option.toList_some, Option.toList_none, List.cons_append, List.nil_append]
          rw [B144_75_g38]
        · obtain ⟨I1, L1, t1, v, o7, r1, r2, r5, r6⟩ := chain_t38 (c := c) (ln := ln) (tq := tq) (wd := wd) (wo := wo) (st := 0) hW (Or.inr ⟨rfl, rfl⟩) (fun w' n' k' y q => ihT w' s rho n' k' y hs q) j w n last k c2 hw f t D d I L (by omega) t0 (by omega) (by omega) (by omega) hst
          refine ⟨I1, L1, t1, v, ?_, r2, r5.up (by have := kH_s h; omega)⟩
          have e145 : jv d 145 0 [some (.ref 116), some (.int (nI n)), some (.int (nI D)), some (.int 0), none, none, none, none] [] (shC, I, L, pX pa pb pu (some 38)) = some (some (.int (vI v)), (shC, I1, L1, pX pa pb pu (some 38))) := by
            rw [show (0 : Int32) = vI 0 from rfl, r1, l4, B145_24_g38, if_pos (show nI (j + 1) < (1201 : Int32) from nI_lt (b := 1201) (by omega) (by decide)), if_pos (by decide), B145_114_g38]
          rw [k0, if_neg (by decide), if_pos (by decide), jgo_some (d := d) rfl e145]
          dsimp only [Option.toList_some, Option.toList_none, List.cons_append, List.nil_append]
          rw [B144_83_g38]
      rcases z with ⟨z, _⟩ | ⟨_, z⟩
      case inl => exact absurd z (by decide)
      obtain ⟨f, rfl⟩ : ∃ g, f = g + 1 := ⟨f - 1, by omega⟩
      rw [ev_f]
      rcases z with ⟨k0, o, n1, k1, i3, e1, q⟩ | ⟨k0, o, n1, k1, n2, k2, j1, e1, q1, j2, e2, q2⟩
      · have k0 : I0 39 n = 14 := k0
        have i3 : I0 40 n = nI n1 := i3
        obtain ⟨I1, L1, t1, v, r1, r2, r5, r6⟩ := ihT w' s rho n1 k1 (by omega) hs q f c t (D + 1) d I L (by omega) (by omega) (by omega) (by omega) hst
        have st2 := r2.tk hW (t1 + 1)
        have nv : v3 (if v = 2 then 2 else 1 - v) := by
          have := r5.1
          unfold v3 at this ⊢
          by_cases y : v = 2
          · rw [if_pos y]; omega
          · rw [if_neg y]; omega
        refine ⟨_, L1, t1 + 1, if v = 2 then 2 else 1 - v, ?_, st2, ?_⟩
        · rw [k0, i3, if_neg (by decide), if_neg (by decide), if_pos (by decide), if_pos (j_in_nI a1 (by decide)), jgo_some (d := d) rfl r1]
          dsimp only [Option.toList_some, Option.toList_none, List.cons_append, List.nil_append]
          rw [B144_100_g38, r2.2.2.1, show nI t1 + 1 = nI (t1 + 1) from nI_add t1 1]
          rcases r5.1 with y | y | y <;> subst y
          · rw [if_neg (by decide), B144_123_g38, if_neg (by decide)]; rfl
          · rw [if_neg (by decide), B144_123_g38, if_neg (by decide)]; rfl
          · rw [if_pos (by decide), B144_123_g38, if_pos rfl]; rfl
        · rw [if_pos o, nN e1 (rel_k q).2]
          exact (tSp.inc r5 nv (fun z => by rw [z])).up (by have := kH_s h; omega)
      · have k0 : I0 39 n = 15 := k0
        obtain ⟨I1, L1, t1, v, r1, r2, r5⟩ := comp_c38 (c := c) hW (ihN w' s rho n1 k1 (by omega) hs q1) (ihN w' s rho n2 k2 (by omega) hs q2) o j1 j2 a1 (f := f) (D := D) (d := d) (by omega) t0 (by omega) (by omega) (by omega) hst
        refine ⟨I1, L1, t1, v, ?_, r2, ?_⟩
        · rw [k0, if_neg (by decide), if_neg (by decide), if_neg (by decide), if_pos (by decide), jgo_some (d := d) rfl r1]
          dsimp only [Option.toList_some, Option.toList_none, List.cons_append, List.nil_append]
          rw [B144_130_g38]
        · rw [if_neg (by rcases o with ⟨_, o⟩ | ⟨_, o⟩ | ⟨_, o⟩ | ⟨_, o⟩ | ⟨_, o⟩ | ⟨_, o⟩ <;> rw [o] <;> decide), if_neg (by rcases o with ⟨_, o⟩ | ⟨_, o⟩ | ⟨_, o⟩ | ⟨_, o⟩ | ⟨_, o⟩ | ⟨_, o⟩ <;> rw [o] <;> decide), nN e1 (rel_k q1).2, nN e2 (rel_k q2).2]
          exact r5.up (by have := kH_s h; omega)
theorem eval_c49 {m0 : Nat} (hE : envC 49 wI I0 L0 nt tq wd wo pa pb pu) (hnl : nl ≤ 40) (hl : ltR (fun c i => I0 (49 + 1 + c) i) R V nl wl ln) (hlt : ∀ i, i < nl → ∃ n mt, mt ≤ nt ∧ rel (fun c i => I0 (49 + 1 + c) i) R V i mt (wl i) 75 true (wl (i + 1)) 0 rho0 n (ln i)) (hm0 : m0 ≤ nl) (hsv : letC I0 L0 m0 (fun i => ev R V ln tq wd wo (wl (i + 1)) true (fun _ => 0) (ln i))) : ∀ h, h ≤ 75 → ∀ m mt w s (rho : Nat → Nat) n k, m ≤ m0 → mt ≤ nt → w ≤ 1200 → s ≤ 24 → (rel (fun c i => I0 (49 + 1 + c) i) R V m mt (wl m) h true w s rho n k → numP 49 wI I0 L0 pa pb pu (fun f c => ev R V ln tq wd wo f true c k) h w s rho n) ∧ (rel (fun c i => I0 (49 + 1 + c) i) R V m mt (wl m) h false w s rho n k → truP 49 wI I0 L0 pa pb pu (fun f c => ev R V ln tq wd wo f false c k) h w s rho n) := by
  obtain ⟨hW, w1, w2, w3, hnt, o1, o2, o3⟩ := id hE
  intro h
  induction h with
  | zero => intro _ m mt w s rho n k _ _ _ _; exact ⟨fun z => z.elim, fun z => z.elim⟩
  | succ h ih =>
    intro hh m mt w s rho n k hm hmt hw hs
    have ihN : ∀ w' s' (rho' : Nat → Nat) n' k', w' ≤ 1200 → s' ≤ 24 → rel (fun c i => I0 (49 + 1 + c) i) R V m mt (wl m) h true w' s' rho' n' k' → numP 49 wI I0 L0 pa pb pu (fun f c => ev R V ln tq wd wo f true c k') h w' s' rho' n' := fun w' s' rho' n' k' a b q => (ih (by omega) m mt w' s' rho' n' k' hm hmt a b).1 q
    have ihT : ∀ w' s' (rho' : Nat → Nat) n' k', w' ≤ 1200 → s' ≤ 24 → rel (fun c i => I0 (49 + 1 + c) i) R V m mt (wl m) h false w' s' rho' n' k' → truP 49 wI I0 L0 pa pb pu (fun f c => ev R V ln tq wd wo f false c k') h w' s' rho' n' := fun w' s' rho' n' k' a b q => (ih (by omega) m mt w' s' rho' n' k' hm hmt a b).2 q
    constructor
    · intro hr f c t D d I L hf ht hD hd hst
      obtain ⟨a1, a2, z⟩ := hr
      by_cases ov : 10000 < t
      · obtain ⟨d, rfl⟩ : ∃ d', d = d' + 1 := ⟨d - 1, by omega⟩
        exact ⟨I, fqC L (0, 0), t, (0, 0), num_over49 hW hst ov (by omega) a1 (by omega), hst.fr hW _, by rw [fqC_6], by rw [fqC_7], nSp.ov _ ov, fun _ => rfl⟩
      have t0 : t ≤ 10000 := by omega
      -- it is enough to say what comes behind the first look
      suffices key : ∃ I' L' t' q, jv d 147 0 [some (.ref 116), some (.int (nI n)), some (.int (nI D)), none] [] (shC, I, L, pX pa pb pu (some 49)) = some (none, (shC, I', L', pX pa pb pu (some 49))) ∧ cSt wI I0 L0 s rho c t' I' L' ∧ L' 116 6 = lI q.1 ∧ L' 116 7 = lI q.2 ∧ nSp t (ev R V ln tq wd wo f true c k).1 (ev R V ln tq wd wo f true c k).2 q (kH (h + 1)) t' by
        obtain ⟨I', L', t', q, k1, k2, k3, k4, k5⟩ := key
        exact ⟨I', L', t', q, k1, k2, k3, k4, k5, fun y => absurd y ov⟩
      obtain ⟨d, rfl⟩ : ∃ d', d = d' + 1 := ⟨d - 1, by omega⟩
      rw [num_at49 hst t0 a1 (by omega), B147_26_g49, if_pos rfl, if_pos (j_in_nI a1 (by decide)), if_pos (j_in_nI a1 (by decide)), nI_clamp (by omega), hst.cell (k := 50) (by decide), hst.cell (k := 54) (by decide), hst.cell (k := 51) (by decide), hst.2.2.1, show nI t + 1 = nI (t + 1) from nI_add t 1, show nI D + 1 = nI (D + 1) from nI_add D 1]
      have st0 := hst.fr hW (0, 0)
      have st1 := st0.tk hW (t + 1)
      rcases z with ⟨kd, j, last, c1, c2, c3⟩ | ⟨w', lw, z⟩
      · -- a chain
        rcases c1 with ⟨_, rfl⟩ | ⟨c1, _⟩
        case inr => exact absurd c1 (by decide)
        have k0 : I0 50 n = nI 7 := chL_kd j w n last k c2
        obtain ⟨I1, L1, t1, q1, o5, o6, o7, o8, r1, r2, r3, r4, r5, r6⟩ := chain_c49 (c := c) (ln := ln) (tq := tq) (wd := wd) (wo := wo) hW (fun w' n' k' y q => ihN w' s rho n' k' y hs q) j w n last k c2 hw f t D d I _ (by omega) t0 (by omega) (by omega) (by omega) st0
        have l4 : I0 53 last = -1 := c3
        refine ⟨I1, L1, t1, q1, ?_, r2, r3, r4, r5.up (by have := kH_s h; omega)⟩
        have e149 : jv d 149 0 [some (.ref 116), some (.int (nI n)), some (.int (nI D)), none, none, none, none, none, none] [] (shC, I, fqC L (0, 0), pX pa pb pu (some 49)) = some (none, (shC, I1, L1, pX pa pb pu (some 49))) := by
          rw [r1, l4, B149_21_g49, if_pos (show nI (j + 1) < (1201 : Int32) from nI_lt (b := 1201) (by omega) (by decide)), if_pos (by decide), B149_112_g49]
        rw [k0, if_neg (by decide), if_neg (by decide), if_neg (by decide), if_neg (by decide), if_neg (by decide), if_neg (by decide), if_neg (by decide), if_pos (by decide), jgo_some (d := d) rfl e149]
        dsimp only [Option.toList_some, Option.toList_none, List.cons_append, List.nil_append]
        rw [B147_282_g49, B147_300_g49]
      rcases z with ⟨_, z⟩ | ⟨z, _⟩
      case inr => exact absurd z (by decide)
      obtain ⟨f, rfl⟩ : ∃ g, f = g + 1 := ⟨f - 1, by omega⟩
      rw [ev_t]
      rcases z with ⟨k0, o, v, v1, v2, v3'⟩ | ⟨k0, o, i, i1, i2, i3, i4⟩ | ⟨k0, o, i, i1, i2, i3, i4⟩ | ⟨k0, o, i, n1, k1, i1, i2, e1, i3, e2, q⟩ | ⟨k0, o, i, i1, i2, e1⟩ | ⟨k0, o, i, n1, k1, i1, i2, e1, i3, e2, q⟩ | ⟨k0, o, n1, k1, i3, e1, q⟩ | ⟨k0, o, n1, k1, n2, k2, n3, k3, j1, e1, q1, j2, e2, q2, j3, e3, q3⟩ | ⟨i, n1, k1, n2, k2, n3, k3, w2', i3, k0, o, j4, i24, lw2, j1, e1, q1, j2, e2, q2, j3, e3, q3, hne⟩
      · -- a number
        have k0 : I0 50 n = 0 := k0
        have v2 : I0 54 n = nI v := v2
        obtain ⟨d, rfl⟩ : ∃ d', d = d' + 1 := ⟨d - 1, by omega⟩
        have hv : fB (v : Int) := ⟨by have : HG = 1000000000000000000 := rfl; omega, by have : HG = 1000000000000000000 := rfl; omega⟩
        have e162 := set_c (d := d) (I := j_up I 116 8 (nI (t + 1))) (L := fqC L (0, 0)) (pa := pa) (pb := pb) (pu := pu) (pw := some 49) ((nI v).toInt64) 1
        rw [nI_64 (by omega), show (1 : Int64).toInt = 1 from rfl, fS_1 hv] at e162
        refine ⟨_, _, t + 1, (v, 1), ?_, st1.fr hW (v, 1), by rw [fqC_6], by rw [fqC_7], ?_⟩
        · rw [k0, v2, if_pos (by decide), jgo_some (d := d + 1) rfl e162]
          dsimp only [Option.toList_some, Option.toList_none, List.cons_append, List.nil_append]
          rw [B147_117_g49, B147_300_g49]
        · rw [if_pos o, v3', lgN_toInt (by omega)]
          exact nSp.one (fN1 hv) t0 (by unfold kH; omega)
      · -- a counter
        have k0 : I0 50 n = 1 := k0
        have i2 : I0 54 n = nI i := i2
        obtain ⟨d, rfl⟩ : ∃ d', d = d' + 1 := ⟨d - 1, by omega⟩
        have cu := st0.2.2.2.2.1 i i1
        have e162 := set_c (d := d) (I := j_up I 116 8 (nI (t + 1))) (L := fqC L (0, 0)) (pa := pa) (pb := pb) (pu := pu) (pw := some 49) (lI (c (rho i))) 1
        rw [cu.2.i, show (1 : Int64).toInt = 1 from rfl, fS_1 cu.2] at e162
        refine ⟨_, _, t + 1, (c (rho i), 1), ?_, st1.fr hW (c (rho i), 1), by rw [fqC_6], by rw [fqC_7], ?_⟩
        · rw [k0, i2, if_neg (by decide), if_pos (by decide), if_pos (j_in_nI (by omega) (by decide)), nI_clamp (n := i) (by omega), cu.1, jgo_some (d := d + 1) rfl e162]
          dsimp only [Option.toList_some, Option.toList_none, List.cons_append, List.nil_append]
          rw [B147_141_g49, B147_300_g49]
        · rw [if_neg (by rw [o]; decide), if_pos o, nN i3 i4]
          exact nSp.one (fN1 cu.2) t0 (by unfold kH; omega)
      · -- a let
        have k0 : I0 50 n = 2 := k0
        have i2 : I0 54 n = nI i := i2
        have hsvi := hsv.2 i (by omega)
        dsimp only at hsvi
        obtain ⟨sv1, x, q, x1, q1, q6, q7, y1, y2⟩ := hsvi
        obtain ⟨n1, mt1, hmt1, qr⟩ := hlt i (by omega)
        have wle : wl (i + 1) ≤ f := by have := hl.1 (i + 1) m (by omega); omega
        have cg := (ev_cg (tq := tq) (wd := wd) (wo := wo) hnl hl (wl (i + 1))).1 i mt1 75 true 0 rho0 n1 (ln i) (by omega) qr f (wl (i + 1)) c (fun _ => 0) wle (Nat.le_refl _) (fun i hi => absurd hi (Nat.not_lt_zero _))
        have q4 : (R 1 k).toNatClampNeg = i := by rw [i3]; exact nI_clamp (by omega)
        have u120 : I 120 i = nI x := by rw [hst.1 120 (Or.inr (by decide)) (by decide)]; exact x1
        have u118 : fqC L (0, 0) 118 i = lI q.1 := by rw [st0.2.2.2.1 118 (Or.inr (by decide)) (by decide) (by decide)]; exact q6
        have u119 : fqC L (0, 0) 119 i = lI q.2 := by rw [st0.2.2.2.1 119 (Or.inr (by decide)) (by decide) (by decide)]; exact q7
        have xb : x ≤ 10001 := by
          by_cases y : (ev R V ln tq wd wo (wl (i + 1)) true (fun _ => 0) (ln i)).1 ≤ 10000
          · have := (y1 y).1; omega
          · have := y2 (by omega); omega
        refine ⟨j_up I 116 8 (nI (t + (1 + x))), fqC (fqC L (0, 0)) q, t + (1 + x), q, ?_, (st0.tk hW (t + (1 + x))).fr hW q, by rw [fqC_6], by rw [fqC_7], ?_⟩
        · have e148 : jv d 148 0 [some (.ref 116), some (.int (nI i))] [] (shC, I, fqC L (0, 0), pX pa pb pu (some 49)) = some (none, (shC, j_up I 116 8 (nI (t + (1 + x))), fqC (fqC L (0, 0)) q, pX pa pb pu (some 49))) := by
            have j24 := j_in_nI (c := i) (n := 40) (by have := hsv.1; omega) (by decide)
            rw [B148_0, if_pos j24, if_pos j24, if_pos j24, nI_clamp (by have := hsv.1; omega), u120, hst.2.2.1, show (1 : Int32) + nI x = nI (1 + x) from nI_add 1 x, nI_add, u118, j_up_cell _ (show 119 ≠ 116 by decide), u119]
            rfl
          rw [k0, i2, if_neg (by decide), if_neg (by decide), if_pos (by decide), jgo_some (d := d) rfl e148]
          dsimp only [Option.toList_some, Option.toList_none, List.cons_append, List.nil_append]
          rw [B147_149_g49, B147_300_g49]
        · rw [if_neg (by rw [o]; decide), if_neg (by rw [o]; decide), if_pos o, q4, cg]
          refine ⟨q1, fun z => ?_, fun z => ?_⟩
          · have z : t + ((ev R V ln tq wd wo (wl (i + 1)) true (fun _ => 0) (ln i)).1 + 1) ≤ 10000 := z
            have a := y1 (by omega)
            exact ⟨by show t + (1 + x) = t + ((ev R V ln tq wd wo (wl (i + 1)) true (fun _ => 0) (ln i)).1 + 1); omega, a.2⟩
          · have z : 10000 < t + ((ev R V ln tq wd wo (wl (i + 1)) true (fun _ => 0) (ln i)).1 + 1) := z
            by_cases y : (ev R V ln tq wd wo (wl (i + 1)) true (fun _ => 0) (ln i)).1 ≤ 10000
            · have a := y1 y
              exact ⟨by omega, by unfold kH; omega⟩
            · have a := y2 (by omega)
              exact ⟨by omega, by unfold kH; omega⟩
      · -- a table
        have k0 : I0 50 n = 3 := k0
        have i2 : I0 54 n = nI i := i2
        have i3 : I0 51 n = nI n1 := i3
        have q4 : (R 1 k).toNatClampNeg = i := by rw [e1]; exact nI_clamp (by omega)
        obtain ⟨I1, L1, t1, q1, r1, r2, r3, r4, r5, r6⟩ := ihN w' s rho n1 k1 (by omega) hs q f c t (D + 1) d I _ (by omega) (by omega) (by omega) (by omega) st0
        have st2 := r2.tk hW (t1 + 1)
        have e153 := o3 d s rho c (t1 + 1) _ L1 i q1 (by omega) (by omega) st2 r5.1 r3 r4
        refine ⟨_, _, t1 + 1, tq i q1, ?_, st2.fr hW (tq i q1), by rw [fqC_6], by rw [fqC_7], ?_⟩
        · rw [k0, i2, i3, if_neg (by decide), if_neg (by decide), if_neg (by decide), if_pos (by decide), if_pos (j_in_nI a1 (by decide)), jgo_some (d := d) rfl r1]
          dsimp only [Option.toList_some, Option.toList_none, List.cons_append, List.nil_append]
          rw [B147_168_g49, r2.2.2.1, show nI t1 + 1 = nI (t1 + 1) from nI_add t1 1, jgo_some (d := d) rfl e153]
          dsimp only [Option.toList_some, Option.toList_none, List.cons_append, List.nil_append]
          rw [B147_183_g49, B147_300_g49]
        · rw [if_neg (by rw [o]; decide), if_neg (by rw [o]; decide), if_neg (by rw [o]; decide), if_pos o, q4, nN e2 (rel_k q).2]
          exact (nSp.inc r5 (w3 i q1 (by omega)) (fun z => by rw [z])).up (by have := kH_s h; omega)
      · -- a word
        have k0 : I0 50 n = 4 := k0
        have i2 : I0 54 n = nI i := i2
        have q4 : (R 1 k).toNatClampNeg = i := by rw [e1]; exact nI_clamp (by omega)
        obtain ⟨I1, L1, r1, r2⟩ := o1 d s rho c (t + 1) _ _ i (by omega) i1 st1
        refine ⟨I1, fqC L1 (wd i), t + 1, wd i, ?_, r2.fr hW (wd i), by rw [fqC_6], by rw [fqC_7], ?_⟩
        · rw [k0, i2, if_neg (by decide), if_neg (by decide), if_neg (by decide), if_neg (by decide), if_pos (by decide), jgo_some (d := d) rfl r1]
          dsimp only [Option.toList_some, Option.toList_none, List.cons_append, List.nil_append]
          rw [B147_201_g49, B147_300_g49]
        · rw [if_neg (by rw [o]; decide), if_neg (by rw [o]; decide), if_neg (by rw [o]; decide), if_neg (by rw [o]; decide), if_pos o, q4]
          exact nSp.one (w1 i i1) t0 (by unfold kH; omega)
      · -- a word of something
        have k0 : I0 50 n = 5 := k0
        have i2 : I0 54 n = nI (13 + i) := i2
        have i3 : I0 51 n = nI n1 := i3
        have q4 : (R 1 k).toNatClampNeg = i := by rw [e1]; exact nI_clamp (by omega)
        obtain ⟨I1, L1, t1, q1, r1, r2, r3, r4, r5, r6⟩ := ihN w' s rho n1 k1 (by omega) hs q f c t (D + 1) d I _ (by omega) (by omega) (by omega) (by omega) st0
        have st2 := r2.tk hW (t1 + 1)
        obtain ⟨I2, L2, p1, p2⟩ := o2 d s rho c (t1 + 1) _ L1 i q1 (by omega) i1 st2 r5.1 r3 r4
        refine ⟨I2, fqC L2 (wo i q1), t1 + 1, wo i q1, ?_, p2.fr hW (wo i q1), by rw [fqC_6], by rw [fqC_7], ?_⟩
        · rw [k0, i2, i3, if_neg (by decide), if_neg (by decide), if_neg (by decide), if_neg (by decide), if_neg (by decide), if_pos (by decide), if_pos (j_in_nI a1 (by decide)), jgo_some (d := d) rfl r1]
          dsimp only [Option.toList_some, Option.toList_none, List.cons_append, List.nil_append]
          rw [B147_220_g49, r2.2.2.1, show nI t1 + 1 = nI (t1 + 1) from nI_add t1 1, jgo_some (d := d) rfl p1]
          dsimp only [Option.toList_some, Option.toList_none, List.cons_append, List.nil_append]
          rw [B147_235_g49, B147_300_g49]
        · rw [if_neg (by rw [o]; decide), if_neg (by rw [o]; decide), if_neg (by rw [o]; decide), if_neg (by rw [o]; decide), if_neg (by rw [o]; decide), if_pos o, q4, nN e2 (rel_k q).2]
          exact (nSp.inc r5 (w2 i q1 i1) (fun z => by rw [z])).up (by have := kH_s h; omega)
      · -- minus
        have k0 : I0 50 n = 6 := k0
        have i3 : I0 51 n = nI n1 := i3
        obtain ⟨I1, L1, t1, q1, r1, r2, r3, r4, r5, r6⟩ := ihN w' s rho n1 k1 (by omega) hs q f c t (D + 1) d I _ (by omega) (by omega) (by omega) (by omega) st0
        have st2 := (r2.tk hW (t1 + 1)).fr hW (-q1.1, q1.2)
        have nq : fN (-q1.1, q1.2) := ⟨⟨by have := r5.1.1.2; show -HG ≤ -q1.1; omega, by have := r5.1.1.1; show -q1.1 ≤ HG; omega⟩, r5.1.2⟩
        refine ⟨j_up I1 116 8 (nI (t1 + 1)), fqC L1 (-q1.1, q1.2), t1 + 1, (-q1.1, q1.2), ?_, st2, by rw [fqC_6], by rw [fqC_7], ?_⟩
        · have eL : j_up L1 116 6 (-(L1 116 6)) = fqC L1 (-q1.1, q1.2) := by
            unfold fqC
            rw [r3, lI_neg, show lI (-q1.1, q1.2).2 = j_up L1 116 6 (lI (-q1.1, q1.2).1) 116 7 by rw [j_up_own, if_neg (by decide), r4], j_up_id]
          rw [k0, i3, if_neg (by decide), if_neg (by decide), if_neg (by decide), if_neg (by decide), if_neg (by decide), if_neg (by decide), if_pos (by decide), if_pos (j_in_nI a1 (by decide)), jgo_some (d := d) rfl r1]
          dsimp only [Option.toList_some, Option.toList_none, List.cons_append, List.nil_append]
          rw [B147_254_g49, r2.2.2.1, show nI t1 + 1 = nI (t1 + 1) from nI_add t1 1, eL, B147_300_g49]
        · rw [if_neg (by rw [o]; decide), if_neg (by rw [o]; decide), if_neg (by rw [o]; decide), if_neg (by rw [o]; decide), if_neg (by rw [o]; decide), if_neg (by rw [o]; decide), if_neg (by rw [o]; decide), if_pos o, nN e1 (rel_k q).2]
          exact (nSp.inc r5 nq (fun z => by rw [z])).up (by have := kH_s h; omega)
      · -- a choice
        have k0 : I0 50 n = 8 := k0
        obtain ⟨I1, L1, t1, q1', r1, r2, r3, r4, r5⟩ := choice_c49 (c := c) hW (ihT w' s rho n1 k1 (by omega) hs q1) (ihN w' s rho n2 k2 (by omega) hs q2) (ihN w' s rho n3 k3 (by omega) hs q3) j1 j2 j3 a1 (f := f) (D := D) (d := d) (by omega) t0 (by omega) (by omega) (by omega) st0
        refine ⟨I1, L1, t1, q1', ?_, r2, r3, r4, ?_⟩
        · rw [k0, if_neg (by decide), if_neg (by decide), if_neg (by decide), if_neg (by decide), if_neg (by decide), if_neg (by decide), if_neg (by decide), if_neg (by decide), if_pos (by decide), jgo_some (d := d) rfl r1]
          dsimp only [Option.toList_some, Option.toList_none, List.cons_append, List.nil_append]
          rw [B147_291_g49, B147_300_g49]
        · rw [if_neg (by rw [o]; decide), if_neg (by rw [o]; decide), if_neg (by rw [o]; decide), if_neg (by rw [o]; decide), if_neg (by rw [o]; decide), if_neg (by rw [o]; decide), if_pos o, nN e1 (rel_k q1).2, nN e2 (rel_k q2).2, nN e3 (rel_k q3).2]
          exact r5.up (Nat.le_of_eq (kH_s h).symm)
      · -- a series
        have k0 : I0 50 n = nI (9 + i) := k0
        obtain ⟨I1, L1, t1, q1', r1, r2, r3, r4, r5⟩ := series_c49 (c := c) (kind := i) (k := k) hW (ihN w2' s rho n1 k1 (by omega) hs q1) (ihN w2' s rho n2 k2 (by omega) hs q2) (ihN w2' (s + 1) (upN rho s k) n3 k3 (by omega) (by omega) q3) hne i24 k0 i3 j1 j2 j3 j4 a1 (f := f) (D := D) (d := d) (by omega) t0 (by omega) (by omega) (by omega) st0
        refine ⟨I1, L1, t1, q1', ?_, r2, r3, r4, ?_⟩
        · have nk : ∀ j : Int32, (j = Int32.ofInt 0 ∨ j = Int32.ofInt 1 ∨ j = Int32.ofInt 2 ∨ j = Int32.ofInt 3 ∨ j = Int32.ofInt 4 ∨ j = Int32.ofInt 5 ∨ j = Int32.ofInt 6 ∨ j = Int32.ofInt 7 ∨ j = Int32.ofInt 8) → I0 50 n ≠ j := by
            intro j hj z
            rw [k0] at z
            subst z
            rcases (show i = 0 ∨ i = 1 ∨ i = 2 by omega) with y | y | y <;> subst y <;> exact absurd hj (by decide)
          rw [if_neg (nk _ (by decide)), if_neg (nk _ (by decide)), if_neg (nk _ (by decide)), if_neg (nk _ (by decide)), if_neg (nk _ (by decide)), if_neg (nk _ (by decide)), if_neg (nk _ (by decide)), if_neg (nk _ (by decide)), if_neg (nk _ (by decide)), jgo_some (d := d) rfl r1]
          dsimp only [Option.toList_some, Option.toList_none, List.cons_append, List.nil_append]
          rw [B147_300_g49]
        · have no : ∀ j : Int32, (j = 1 ∨ j = 2 ∨ j = 3 ∨ j = 4 ∨ j = 5 ∨ j = 6 ∨ j = 7 ∨ j = 11 ∨ j = 12 ∨ j = 13 ∨ j = 14 ∨ j = 15) → R 0 k ≠ j := by
            intro j hj z
            rw [o] at z
            subst z
            rcases (show i = 0 ∨ i = 1 ∨ i = 2 by omega) with y | y | y <;> subst y <;> exact absurd hj (by decide)
          have kd : (if R 0 k = 8 then 0 else if R 0 k = 9 then 1 else 2) = i := by
            rw [o]
            rcases (show i = 0 ∨ i = 1 ∨ i = 2 by omega) with y | y | y <;> subst y <;> rfl
          rw [if_neg (no 1 (by decide)), if_neg (no 2 (by decide)), if_neg (no 3 (by decide)), if_neg (no 4 (by decide)), if_neg (no 5 (by decide)), if_neg (no 6 (by decide)), if_neg (no 7 (by decide)), if_neg (no 11 (by decide)), if_neg (show ¬ (R 0 k = 12 ∨ R 0 k = 13 ∨ R 0 k = 14 ∨ R 0 k = 15) from fun z => by rcases z with z | z | z | z; exact no 12 (by decide) z; exact no 13 (by decide) z; exact no 14 (by decide) z; exact no 15 (by decide) z), nN e1 (rel_k q1).2, nN e2 (rel_k q2).2, nN e3 (rel_k q3).2, kd]
          exact r5.up (Nat.le_of_eq (kH_s h).symm)
    · intro hr f c t D d I L hf ht hD hd hst
      obtain ⟨a1, a2, z⟩ := hr
      obtain ⟨d, rfl⟩ : ∃ d', d = d' + 1 := ⟨d - 1, by omega⟩
      rw [tru_at49 hst (by omega) a1 (by omega)]
      by_cases ov : 10000 < t
      · rw [if_pos ov]
        exact ⟨I, L, t, 2, rfl, hst, tSp.ov _ ov, fun _ => rfl⟩
      have t0 : t ≤ 10000 := by omega
      rw [if_neg ov]
      suffices key : ∃ I' L' t' v, jv (d + 1) 144 22 [some (.ref 116), some (.int (nI n)), some (.int (nI D)), none] [.int 0] (shC, I, L, pX pa pb pu (some 49)) = some (some (.int (vI v)), (shC, I', L', pX pa pb pu (some 49))) ∧ cSt wI I0 L0 s rho c t' I' L' ∧ tSp t (ev R V ln tq wd wo f false c k).1 v (ev R V ln tq wd wo f false c k).2.1 (kH (h + 1)) t' by
        obtain ⟨I', L', t', v, k1, k2, k3⟩ := key
        exact ⟨I', L', t', v, k1, k2, k3, fun y => absurd y ov⟩
      rw [B144_22_g49, if_pos rfl, if_pos (j_in_nI a1 (by decide)), nI_clamp (by omega), hst.cell (k := 50) (by decide), hst.cell (k := 51) (by decide), show nI D + 1 = nI (D + 1) from nI_add D 1]
      rcases z with ⟨kd, j, last, c1, c2, c3⟩ | ⟨w', lw, z⟩
      · rcases c1 with ⟨c1, _⟩ | ⟨_, c1⟩
        case inl => exact absurd c1 (by decide)
        have k0 : I0 50 n = nI kd := chL_kd j w n last k c2
        have l4 : I0 53 last = -1 := c3
        rcases c1 with rfl | rfl
        · obtain ⟨I1, L1, t1, v, o7, r1, r2, r5, r6⟩ := chain_t49 (c := c) (ln := ln) (tq := tq) (wd := wd) (wo := wo) (st := 1) hW (Or.inl ⟨rfl, rfl⟩) (fun w' n' k' y q => ihT w' s rho n' k' y hs q) j w n last k c2 hw f t D d I L (by omega) t0 (by omega) (by omega) (by omega) hst
          refine ⟨I1, L1, t1, v, ?_, r2, r5.up (by have := kH_s h; omega)⟩
          have e145 : jv d 145 0 [some (.ref 116), some (.int (nI n)), some (.int (nI D)), some (.int 1), none, none, none, none] [] (shC, I, L, pX pa pb pu (some 49)) = some (some (.int (vI v)), (shC, I1, L1, pX pa pb pu (some 49))) := by
            rw [show (1 : Int32) = vI 1 from rfl, r1, l4, B145_24_g49, if_pos (show nI (j + 1) < (1201 : Int32) from nI_lt (b := 1201) (by omega) (by decide)), if_pos (by decide), B145_114_g49]
          rw [k0, if_pos (by decide), jgo_some (d := d) rfl e145]
          dsimp only [Option.toList_some, Option.toList_none, List.cons_append, List.nil_append]
          rw [B144_75_g49]
        · obtain ⟨I1, L1, t1, v, o7, r1, r2, r5, r6⟩ := chain_t49 (c := c) (ln := ln) (tq := tq) (wd := wd) (wo := wo) (st := 0) hW (Or.inr ⟨rfl, rfl⟩) (fun w' n' k' y q => ihT w' s rho n' k' y hs q) j w n last k c2 hw f t D d I L (by omega) t0 (by omega) (by omega) (by omega) hst
          refine ⟨I1, L1, t1, v, ?_, r2, r5.up (by have := kH_s h; omega)⟩
          have e145 : jv d 145 0 [some (.ref 116), some (.int (nI n)), some (.int (nI D)), some (.int 0), none, none, none, none] [] (shC, I, L, pX pa pb pu (some 49)) = some (some (.int (vI v)), (shC, I1, L1, pX pa pb pu (some 49))) := by
            rw [show (0 : Int32) = vI 0 from rfl, r1, l4, B145_24_g49, if_pos (show nI (j + 1) < (1201 : Int32) from nI_lt (b := 1201) (by omega) (by decide)), if_pos (by decide), B145_114_g49]
          rw [k0, if_neg (by decide), if_pos (by decide), jgo_some (d := d) rfl e145]
          dsimp only [Option.toList_some, Option.toList_none, List.cons_append, List.nil_append]
          rw [B144_83_g49]
      rcases z with ⟨z, _⟩ | ⟨_, z⟩
      case inl => exact absurd z (by decide)
      obtain ⟨f, rfl⟩ : ∃ g, f = g + 1 := ⟨f - 1, by omega⟩
      rw [ev_f]
      rcases z with ⟨k0, o, n1, k1, i3, e1, q⟩ | ⟨k0, o, n1, k1, n2, k2, j1, e1, q1, j2, e2, q2⟩
      · have k0 : I0 50 n = 14 := k0
        have i3 : I0 51 n = nI n1 := i3
        obtain ⟨I1, L1, t1, v, r1, r2, r5, r6⟩ := ihT w' s rho n1 k1 (by omega) hs q f c t (D + 1) d I L (by omega) (by omega) (by omega) (by omega) hst
        have st2 := r2.tk hW (t1 + 1)
        have nv : v3 (if v = 2 then 2 else 1 - v) := by
          have := r5.1
          unfold v3 at this ⊢
          by_cases y : v = 2
          · rw [if_pos y]; omega
          · rw [if_neg y]; omega
        refine ⟨_, L1, t1 + 1, if v = 2 then 2 else 1 - v, ?_, st2, ?_⟩
        · rw [k0, i3, if_neg (by decide), if_neg (by decide), if_pos (by decide), if_pos (j_in_nI a1 (by decide)), jgo_some (d := d) rfl r1]
          dsimp only [Option.toList_some, Option.toList_none, List.cons_append, List.nil_append]
          rw [B144_100_g49, r2.2.2.1, show nI t1 + 1 = nI (t1 + 1) from nI_add t1 1]
          rcases r5.1 with y | y | y <;> subst y
          · rw [if_neg (by decide), B144_123_g49, if_neg (by decide)]; rfl
          · rw [if_neg (by decide), B144_123_g49, if_neg (by decide)]; rfl
          · rw [if_pos (by decide), B144_123_g49, if_pos rfl]; rfl
        · rw [if_pos o, nN e1 (rel_k q).2]
          exact (tSp.inc r5 nv (fun z => by rw [z])).up (by have := kH_s h; omega)
      · have k0 : I0 50 n = 15 := k0
        obtain ⟨I1, L1, t1, v, r1, r2, r5⟩ := comp_c49 (c := c) hW (ihN w' s rho n1 k1 (by omega) hs q1) (ihN w' s rho n2 k2 (by omega) hs q2) o j1 j2 a1 (f := f) (D := D) (d := d) (by omega) t0 (by omega) (by omega) (by omega) hst
        refine ⟨I1, L1, t1, v, ?_, r2, ?_⟩
        · rw [k0, if_neg (by decide), if_neg (by decide), if_neg (by decide), if_pos (by decide), jgo_some (d := d) rfl r1]
          dsimp only [Option.toList_some, Option.toList_none, List.cons_append, List.nil_append]
          rw [B144_130_g49]
        · rw [if_neg (by rcases o with ⟨_, o⟩ | ⟨_, o⟩ | ⟨_, o⟩ | ⟨_, o⟩ | ⟨_, o⟩ | ⟨_, o⟩ <;> rw [o] <;> decide), if_neg (by rcases o with ⟨_, o⟩ | ⟨_, o⟩ | ⟨_, o⟩ | ⟨_, o⟩ | ⟨_, o⟩ | ⟨_, o⟩ <;> rw [o] <;> decide), nN e1 (rel_k q1).2, nN e2 (rel_k q2).2]
          exact r5.up (by have := kH_s h; omega)
end EVAK
