/-! RULES: the first one's series -/
section EVAI
variable {wI : (Nat → Nat → Int32) → (Nat → Nat → Int64) → Prop} {I0 : Nat → Nat → Int32} {L0 : Nat → Nat → Int64} {pa pb pu : Option Nat}
theorem cSt.push {s t k : Nat} {rho : Nat → Nat} {c : Nat → Int} {I : Nat → Nat → Int32} {L : Nat → Nat → Int64} (hW : wSt wI) (h : cSt wI I0 L0 s rho c t I L) (hne : ∀ j, j < s → rho j ≠ k) {v : Int} (hv : fB v) : cSt wI I0 L0 (s + 1) (upN rho s k) (upZ c k v) t I (j_up L 117 s (lI v)) := by
  refine ⟨h.1, h.2.1, h.2.2.1, fun q a b b' => by rw [j_up_cell _ b']; exact h.2.2.2.1 q a b b', fun i hi => ?_, hW I L _ _ h.2.2.2.2.2 (fun _ _ => rfl) (fun q _ b' => j_up_cell _ b' _ _)⟩
  by_cases z : i = s
  · subst z
    rw [upN_o, j_up_own, if_pos rfl]
    unfold upZ
    rw [if_pos rfl]
    exact ⟨rfl, hv⟩
  · rw [upN_n rho z, j_up_own, if_neg z]
    unfold upZ
    rw [if_neg (hne i (by omega))]
    exact h.2.2.2.2.1 i (by omega)
theorem cSt.pop {s t k : Nat} {rho : Nat → Nat} {c : Nat → Int} {I : Nat → Nat → Int32} {L : Nat → Nat → Int64} (hne : ∀ j, j < s → rho j ≠ k) {v : Int} (h : cSt wI I0 L0 (s + 1) (upN rho s k) (upZ c k v) t I L) : cSt wI I0 L0 s rho c t I L := by
  refine ⟨h.1, h.2.1, h.2.2.1, h.2.2.2.1, fun i hi => ?_, h.2.2.2.2.2⟩
  have := h.2.2.2.2.1 i (by omega)
  rw [upN_n rho (by omega)] at this
  unfold upZ at this
  rw [if_neg (hne i hi)] at this
  exact this
theorem srd_mono (e : Int → Nat × Int × Int) (kind : Nat) (a : Int) (i : Nat) : ∀ r, (srd e kind a i).1 ≤ (srd e kind a (i + r)).1 := by
  intro r
  induction r with
  | zero => exact Nat.le_refl _
  | succ r ih =>
    show _ ≤ (srd e kind a (i + r)).1 + (e (a + ((i + r : Nat) : Int))).1
    omega
/-- one after the other -/
theorem nSp.seq {t N1 N2 K t1 t2 : Nat} {p1 p2 q1 q2 P Q : Int × Int} (h1 : nSp t N1 p1 q1 K t1) (h2 : nSp t1 N2 p2 q2 K t2) (le : t1 ≤ 10000) (hQ : fN Q) (hPQ : q1 = p1 → q2 = p2 → Q = P) : nSp t (N1 + N2) P Q K t2 := by
  refine ⟨hQ, fun z => ?_, fun z => ?_⟩
  · have a := h1.2.1 (by omega)
    have b := h2.2.1 (by omega)
    exact ⟨by omega, hPQ a.2 b.2⟩
  · by_cases z1 : t + N1 ≤ 10000
    · have a := h1.2.1 z1
      have b := h2.2.2 (by omega)
      exact ⟨by omega, by omega⟩
    · have a := h1.2.2 (by omega)
      omega
theorem keep_c {d : Nat} {I : Nat → Nat → Int32} {L : Nat → Nat → Int64} {pw : Option Nat} {p q : Int × Int} (hp : fN p) (hq : fN q) (h6 : L 116 6 = lI q.1) (h7 : L 116 7 = lI q.2) (way : Int32) : jv (d + 3) 152 0 [some (.ref 116), some (.int way), some (.long (lI p.1)), none, some (.long (lI p.2)), none, none] [] (shC, I, L, pX pa pb pu pw) = some (none, (shC, I, fqC L (if fC q.1 q.2 p.1 p.2 = 2 then (0, 0) else if fC q.1 q.2 p.1 p.2 = way then q else p), pX pa pb pu pw)) := by
  rw [B152_0, h6, h7, jgo_some (d := d + 2) rfl (cmp3_c (d := d) hq.1 hq.d hp.1 hp.d)]
  dsimp only [Option.toList_some, Option.toList_none, List.cons_append, List.nil_append]
  rw [B152_14]
  by_cases z1 : fC q.1 q.2 p.1 p.2 = 2
  · rw [if_pos z1, jgo_some (d := d + 2) rfl und_c, if_pos z1]
    dsimp only [Option.toList_some, Option.toList_none, List.cons_append, List.nil_append]
    rw [B152_26, B152_46]
  · rw [if_neg z1, if_neg z1]
    by_cases z2 : fC q.1 q.2 p.1 p.2 = way
    · rw [if_pos z2, if_pos z2, B152_46, fqC_e q h6 h7]
    · rw [if_neg z2, if_neg z2, B152_46]; rfl
theorem i64 : ∀ i, i < 65 → (nI i).toInt64 = lI (i : Int) := by decide +kernel
theorem rounds_c38 {s h k n n3 kind w' : Nat} {rho : Nat → Nat} {c : Nat → Int} (hW : wSt wI) {E3 : Nat → (Nat → Int) → Nat × Int × Int} (hs3 : numP 38 wI I0 L0 pa pb pu E3 h w' (s + 1) (upN rho s k) n3) (hne : ∀ j, j < s → rho j ≠ k) (hs24 : s < 24) (hn : n < 1201) (e3 : I0 42 n = nI n3) (ev' : I0 43 n = nI s) (hk : kind < 3) {f D d T0 : Nat} (hf : w' ≤ f) (hh : h ≤ 75) (hD : D + 1 + h ≤ 150) (hd : 75 + 5 * h ≤ d) {a b : Int} (ha : fB a) (hb : fB b) (hab : b - a < 64) (hT0 : T0 ≤ 10000 + kH h + 1) (l5 : Int32) : ∀ (r i t : Nat) (I : Nat → Nat → Int32) (L : Nat → Nat → Int64) (p : Int × Int), i + r = (b - a + 1).toNat → cSt wI I0 L0 s rho c t I L → nSp T0 (srd (fun v => E3 f (upZ c k v)) kind a i).1 (srd (fun v => E3 f (upZ c k v)) kind a i).2 p (kH h + 1) t → ∃ I' L' t' p', jv d 151 142 [some (.ref 116), some (.int (nI n)), some (.int (nI D)), some (.long (lI a)), none, some (.int l5), some (.long (lI b)), none, some (.int (nI (9 + kind))), some (.long (lI p.1)), none, some (.long (lI p.2)), none, some (.int (nI i))] [] (shC, I, L, pX pa pb pu (some 38)) = some (none, (shC, I', fqC L' p', pX pa pb pu (some 38))) ∧ cSt wI I0 L0 s rho c t' I' L' ∧ nSp T0 (srd (fun v => E3 f (upZ c k v)) kind a (b - a + 1).toNat).1 (srd (fun v => E3 f (upZ c k v)) kind a (b - a + 1).toNat).2 p' (kH h + 1) t' ∧ (10000 < t → t' = t) := by
  have hH : HG = 1000000000000000000 := rfl
  have hba : (lI b - lI a).toInt = b - a := by
    rw [lI_sub]; exact lI_toInt (by have := ha.1; have := ha.2; have := hb.1; have := hb.2; omega) (by have := ha.1; have := ha.2; have := hb.1; have := hb.2; omega)
  intro r
  induction r with
  | zero =>
    intro i t I L p hi hst hp
    refine ⟨I, L, t, p, ?_, hst, by rw [← hi]; exact hp, fun _ => rfl⟩
    rw [B151_142_g38]
    by_cases z : nI i < 64
    · have hi64 : i < 65 := by omega
      rw [if_pos z, i64 i hi64, if_pos ((lcmp_pos _ _).mpr (by rw [hba, lI_toInt (by omega) (by omega)]; omega)), B151_273_g38]; rfl
    · rw [if_neg z, B151_273_g38]; rfl
  | succ r ih =>
    intro i t I L p hi hst hp
    have hi64 : i < 64 := by omega
    obtain ⟨d, rfl⟩ : ∃ d', d = d' + 4 := ⟨d - 4, by omega⟩
    have tb : t ≤ 1000000 := by have := hp.bd; unfold kH at this hT0; omega
    have go : jv (d + 4) 151 142 [some (.ref 116), some (.int (nI n)), some (.int (nI D)), some (.long (lI a)), none, some (.int l5), some (.long (lI b)), none, some (.int (nI (9 + kind))), some (.long (lI p.1)), none, some (.long (lI p.2)), none, some (.int (nI i))] [] (shC, I, L, pX pa pb pu (some 38)) = jv (d + 4) 151 164 [some (.ref 116), some (.int (nI n)), some (.int (nI D)), some (.long (lI a)), none, some (.int l5), some (.long (lI b)), none, some (.int (nI (9 + kind))), some (.long (lI p.1)), none, some (.long (lI p.2)), none, some (.int (nI i))] [.int (if 10000 < t then 1 else 0)] (shC, I, L, pX pa pb pu (some 38)) := by
      rw [B151_142_g38, if_pos (show nI i < (64 : Int32) from nI_lt (b := 64) hi64 (by decide)), i64 i (by omega), if_neg (fun z => by have := (lcmp_pos _ _).mp z; rw [hba, lI_toInt (by omega) (by omega)] at this; omega), jgo_some (d := d + 3) rfl (ov_c hst.2.2.1 tb)]
      rfl
    rw [go, B151_164_g38]
    by_cases ov : 10000 < t
    · refine ⟨I, L, t, p, ?_, hst, ⟨hp.1, fun z => ?_, fun _ => ⟨ov, hp.bd⟩⟩, fun _ => rfl⟩
      · rw [if_pos ov, if_neg (by decide), B151_273_g38]; rfl
      · have mono := srd_mono (fun v => E3 f (upZ c k v)) kind a i (r + 1)
        rw [hi] at mono
        have := (hp.2.1 (by omega)).1
        omega
    · have cv : fB (a + i) := by have := ha.1; have := hb.2; exact ⟨by omega, by omega⟩
      have st1 := hst.push hW hne cv
      obtain ⟨I2, L2, t2, q2, r1, r2, r3, r4, r5, r6⟩ := hs3 f (upZ c k (a + i)) t (D + 1) (d + 3) I _ hf (by omega) hD (by omega) st1
      have c5 : I 43 n = nI s := by rw [hst.cell (by decide)]; exact ev'
      have c4 : I 42 n = nI n3 := by rw [hst.cell (by decide)]; exact e3
      have st2 := cSt.pop hne r2
      rw [if_neg ov, if_pos rfl, if_pos (j_in_nI hn (by decide)), nI_clamp (by omega), c5, if_pos (j_in_nI hs24 (by decide)), if_pos (j_in_nI hn (by decide)), nI_clamp (n := s) (by omega), c4, i64 i (by omega), lI_add, show nI D + 1 = nI (D + 1) from nI_add D 1, jgo_some (d := d + 3) rfl r1]
      dsimp only [Option.toList_some, Option.toList_none, List.cons_append, List.nil_append]
      have fin : ∀ (L3 : Nat → Nat → Int64) (P : Int × Int), P = (srd (fun v => E3 f (upZ c k v)) kind a (i + 1)).2 ∨ True → fN P → L3 = fqC L2 P → (p = (srd (fun v => E3 f (upZ c k v)) kind a i).2 → q2 = (E3 f (upZ c k (a + i))).2 → P = (srd (fun v => E3 f (upZ c k v)) kind a (i + 1)).2) → ∃ I' L' t' p', jv (d + 4) 151 255 [some (.ref 116), some (.int (nI n)), some (.int (nI D)), some (.long (lI a)), none, some (.int l5), some (.long (lI b)), none, some (.int (nI (9 + kind))), some (.long (lI p.1)), none, some (.long (lI p.2)), none, some (.int (nI i))] [] (shC, I2, L3, pX pa pb pu (some 38)) = some (none, (shC, I', fqC L' p', pX pa pb pu (some 38))) ∧ cSt wI I0 L0 s rho c t' I' L' ∧ nSp T0 (srd (fun v => E3 f (upZ c k v)) kind a (b - a + 1).toNat).1 (srd (fun v => E3 f (upZ c k v)) kind a (b - a + 1).toNat).2 p' (kH h + 1) t' ∧ (10000 < t → t' = t) := by
        intro L3 P _ hP e hPP
        subst e
        rw [B151_255_g38, fqC_6, fqC_7, show nI i + 1 = nI (i + 1) from nI_add i 1]
        obtain ⟨I', L', t', p', w1, w2, w3, _⟩ := ih (i + 1) t2 I2 (fqC L2 P) P (by omega) (st2.fr hW P) (nSp.seq hp (r5.up (by omega)) (by omega) hP hPP)
        exact ⟨I', L', t', p', w1, w2, w3, fun y => absurd y ov⟩
      rw [B151_202_g38]
      rcases (show kind = 0 ∨ kind = 1 ∨ kind = 2 by omega) with rfl | rfl | rfl
      · rw [if_pos (by decide), show (43 : Int32) = opK 0 from rfl, r3, r4, jgo_some (d := d + 3) rfl (act_c (d := d + 1) (k := 0) (by decide) hp.1.1 hp.1.d r5.1.1 r5.1.d)]
        dsimp only [Option.toList_some, Option.toList_none, List.cons_append, List.nil_append]
        rw [B151_227_g38]
        refine fin _ (fA 0 p.1 p.2 q2.1 q2.2) (Or.inr trivial) (fA_b _ _ _ _ _) rfl (fun z1 z2 => ?_)
        rw [z1, z2]; rfl
      · rw [if_neg (by decide)]
        by_cases i0 : i = 0
        · subst i0
          rw [if_neg (by decide)]
          refine fin L2 q2 (Or.inr trivial) r5.1 (fqC_e q2 r3 r4).symm (fun z1 z2 => ?_)
          rw [z2]; rfl
        · rw [if_pos (show (0 : Int32) < nI i from nI_lt (a := 0) (by omega) (by omega)), if_pos (by decide), B151_248_g38, jgo_some (d := d + 3) rfl (keep_c (d := d) hp.1 r5.1 r3 r4 1)]
          dsimp only [Option.toList_some, Option.toList_none, List.cons_append, List.nil_append]
          refine fin _ (if fC q2.1 q2.2 p.1 p.2 = 2 then (0, 0) else if fC q2.1 q2.2 p.1 p.2 = 1 then q2 else p) (Or.inr trivial) ?_ rfl (fun z1 z2 => ?_)
          · by_cases y1 : fC q2.1 q2.2 p.1 p.2 = 2
            · rw [if_pos y1]; exact fN0
            · rw [if_neg y1]
              by_cases y2 : fC q2.1 q2.2 p.1 p.2 = 1
              · rw [if_pos y2]; exact r5.1
              · rw [if_neg y2]; exact hp.1
          · rw [z1, z2]
            conv => rhs; unfold srd
            rw [if_neg (show ¬ (1 : Nat) = 0 by decide), if_neg i0]
            rfl
      · rw [if_neg (by decide)]
        by_cases i0 : i = 0
        · subst i0
          rw [if_neg (by decide)]
          refine fin L2 q2 (Or.inr trivial) r5.1 (fqC_e q2 r3 r4).symm (fun z1 z2 => ?_)
          rw [z2]; rfl
        · rw [if_pos (show (0 : Int32) < nI i from nI_lt (a := 0) (by omega) (by omega)), if_neg (by decide), B151_248_g38, jgo_some (d := d + 3) rfl (keep_c (d := d) hp.1 r5.1 r3 r4 (-1))]
          dsimp only [Option.toList_some, Option.toList_none, List.cons_append, List.nil_append]
          refine fin _ (if fC q2.1 q2.2 p.1 p.2 = 2 then (0, 0) else if fC q2.1 q2.2 p.1 p.2 = -1 then q2 else p) (Or.inr trivial) ?_ rfl (fun z1 z2 => ?_)
          · by_cases y1 : fC q2.1 q2.2 p.1 p.2 = 2
            · rw [if_pos y1]; exact fN0
            · rw [if_neg y1]
              by_cases y2 : fC q2.1 q2.2 p.1 p.2 = -1
              · rw [if_pos y2]; exact r5.1
              · rw [if_neg y2]; exact hp.1
          · rw [z1, z2]
            conv => rhs; unfold srd
            rw [if_neg (show ¬ (2 : Nat) = 0 by decide), if_neg i0]
            rfl
theorem rounds_c49 {s h k n n3 kind w' : Nat} {rho : Nat → Nat} {c : Nat → Int} (hW : wSt wI) {E3 : Nat → (Nat → Int) → Nat × Int × Int} (hs3 : numP 49 wI I0 L0 pa pb pu E3 h w' (s + 1) (upN rho s k) n3) (hne : ∀ j, j < s → rho j ≠ k) (hs24 : s < 24) (hn : n < 1201) (e3 : I0 53 n = nI n3) (ev' : I0 54 n = nI s) (hk : kind < 3) {f D d T0 : Nat} (hf : w' ≤ f) (hh : h ≤ 75) (hD : D + 1 + h ≤ 150) (hd : 75 + 5 * h ≤ d) {a b : Int} (ha : fB a) (hb : fB b) (hab : b - a < 64) (hT0 : T0 ≤ 10000 + kH h + 1) (l5 : Int32) : ∀ (r i t : Nat) (I : Nat → Nat → Int32) (L : Nat → Nat → Int64) (p : Int × Int), i + r = (b - a + 1).toNat → cSt wI I0 L0 s rho c t I L → nSp T0 (srd (fun v => E3 f (upZ c k v)) kind a i).1 (srd (fun v => E3 f (upZ c k v)) kind a i).2 p (kH h + 1) t → ∃ I' L' t' p', jv d 151 142 [some (.ref 116), some (.int (nI n)), some (.int (nI D)), some (.long (lI a)), none, some (.int l5), some (.long (lI b)), none, some (.int (nI (9 + kind))), some (.long (lI p.1)), none, some (.long (lI p.2)), none, some (.int (nI i))] [] (shC, I, L, pX pa pb pu (some 49)) = some (none, (shC, I', fqC L' p', pX pa pb pu (some 49))) ∧ cSt wI I0 L0 s rho c t' I' L' ∧ nSp T0 (srd (fun v => E3 f (upZ c k v)) kind a (b - a + 1).toNat).1 (srd (fun v => E3 f (upZ c k v)) kind a (b - a + 1).toNat).2 p' (kH h + 1) t' ∧ (10000 < t → t' = t) := by
  have hH : HG = 1000000000000000000 := rfl
  have hba : (lI b - lI a).toInt = b - a := by
    rw [lI_sub]; exact lI_toInt (by have := ha.1; have := ha.2; have := hb.1; have := hb.2; omega) (by have := ha.1; have := ha.2; have := hb.1; have := hb.2; omega)
  intro r
  induction r with
  | zero =>
    intro i t I L p hi hst hp
    refine ⟨I, L, t, p, ?_, hst, by rw [← hi]; exact hp, fun _ => rfl⟩
    rw [B151_142_g49]
    by_cases z : nI i < 64
    · have hi64 : i < 65 := by omega
      rw [if_pos z, i64 i hi64, if_pos ((lcmp_pos _ _).mpr (by rw [hba, lI_toInt (by omega) (by omega)]; omega)), B151_273_g49]; rfl
    · rw [if_neg z, B151_273_g49]; rfl
  | succ r ih =>
    intro i t I L p hi hst hp
    have hi64 : i < 64 := by omega
    obtain ⟨d, rfl⟩ : ∃ d', d = d' + 4 := ⟨d - 4, by omega⟩
    have tb : t ≤ 1000000 := by have := hp.bd; unfold kH at this hT0; omega
    have go : jv (d + 4) 151 142 [some (.ref 116), some (.int (nI n)), some (.int (nI D)), some (.long (lI a)), none, some (.int l5), some (.long (lI b)), none, some (.int (nI (9 + kind))), some (.long (lI p.1)), none, some (.long (lI p.2)), none, some (.int (nI i))] [] (shC, I, L, pX pa pb pu (some 49)) = jv (d + 4) 151 164 [some (.ref 116), some (.int (nI n)), some (.int (nI D)), some (.long (lI a)), none, some (.int l5), some (.long (lI b)), none, some (.int (nI (9 + kind))), some (.long (lI p.1)), none, some (.long (lI p.2)), none, some (.int (nI i))] [.int (if 10000 < t then 1 else 0)] (shC, I, L, pX pa pb pu (some 49)) := by
      rw [B151_142_g49, if_pos (show nI i < (64 : Int32) from nI_lt (b := 64) hi64 (by decide)), i64 i (by omega), if_neg (fun z => by have := (lcmp_pos _ _).mp z; rw [hba, lI_toInt (by omega) (by omega)] at this; omega), jgo_some (d := d + 3) rfl (ov_c hst.2.2.1 tb)]
      rfl
    rw [go, B151_164_g49]
    by_cases ov : 10000 < t
    · refine ⟨I, L, t, p, ?_, hst, ⟨hp.1, fun z => ?_, fun _ => ⟨ov, hp.bd⟩⟩, fun _ => rfl⟩
      · rw [if_pos ov, if_neg (by decide), B151_273_g49]; rfl
      · have mono := srd_mono (fun v => E3 f (upZ c k v)) kind a i (r + 1)
        rw [hi] at mono
        have := (hp.2.1 (by omega)).1
        omega
    · have cv : fB (a + i) := by have := ha.1; have := hb.2; exact ⟨by omega, by omega⟩
      have st1 := hst.push hW hne cv
      obtain ⟨I2, L2, t2, q2, r1, r2, r3, r4, r5, r6⟩ := hs3 f (upZ c k (a + i)) t (D + 1) (d + 3) I _ hf (by omega) hD (by omega) st1
      have c5 : I 54 n = nI s := by rw [hst.cell (by decide)]; exact ev'
      have c4 : I 53 n = nI n3 := by rw [hst.cell (by decide)]; exact e3
      have st2 := cSt.pop hne r2
      rw [if_neg ov, if_pos rfl, if_pos (j_in_nI hn (by decide)), nI_clamp (by omega), c5, if_pos (j_in_nI hs24 (by decide)), if_pos (j_in_nI hn (by decide)), nI_clamp (n := s) (by omega), c4, i64 i (by omega), lI_add, show nI D + 1 = nI (D + 1) from nI_add D 1, jgo_some (d := d + 3) rfl r1]
      dsimp only [Option.toList_some, Option.toList_none, List.cons_append, List.nil_append]
      have fin : ∀ (L3 : Nat → Nat → Int64) (P : Int × Int), P = (srd (fun v => E3 f (upZ c k v)) kind a (i + 1)).2 ∨ True → fN P → L3 = fqC L2 P → (p = (srd (fun v => E3 f (upZ c k v)) kind a i).2 → q2 = (E3 f (upZ c k (a + i))).2 → P = (srd (fun v => E3 f (upZ c k v)) kind a (i + 1)).2) → ∃ I' L' t' p', jv (d + 4) 151 255 [some (.ref 116), some (.int (nI n)), some (.int (nI D)), some (.long (lI a)), none, some (.int l5), some (.long (lI b)), none, some (.int (nI (9 + kind))), some (.long (lI p.1)), none, some (.long (lI p.2)), none, some (.int (nI i))] [] (shC, I2, L3, pX pa pb pu (some 49)) = some (none, (shC, I', fqC L' p', pX pa pb pu (some 49))) ∧ cSt wI I0 L0 s rho c t' I' L' ∧ nSp T0 (srd (fun v => E3 f (upZ c k v)) kind a (b - a + 1).toNat).1 (srd (fun v => E3 f (upZ c k v)) kind a (b - a + 1).toNat).2 p' (kH h + 1) t' ∧ (10000 < t → t' = t) := by
        intro L3 P _ hP e hPP
        subst e
        rw [B151_255_g49, fqC_6, fqC_7, show nI i + 1 = nI (i + 1) from nI_add i 1]
        obtain ⟨I', L', t', p', w1, w2, w3, _⟩ := ih (i + 1) t2 I2 (fqC L2 P) P (by omega) (st2.fr hW P) (nSp.seq hp (r5.up (by omega)) (by omega) hP hPP)
        exact ⟨I', L', t', p', w1, w2, w3, fun y => absurd y ov⟩
      rw [B151_202_g49]
      rcases (show kind = 0 ∨ kind = 1 ∨ kind = 2 by omega) with rfl | rfl | rfl
      · rw [if_pos (by decide), show (43 : Int32) = opK 0 from rfl, r3, r4, jgo_some (d := d + 3) rfl (act_c (d := d + 1) (k := 0) (by decide) hp.1.1 hp.1.d r5.1.1 r5.1.d)]
        dsimp only [Option.toList_some, Option.toList_none, List.cons_append, List.nil_append]
        rw [B151_227_g49]
        refine fin _ (fA 0 p.1 p.2 q2.1 q2.2) (Or.inr trivial) (fA_b _ _ _ _ _) rfl (fun z1 z2 => ?_)
        rw [z1, z2]; rfl
      · rw [if_neg (by decide)]
        by_cases i0 : i = 0
        · subst i0
          rw [if_neg (by decide)]
          refine fin L2 q2 (Or.inr trivial) r5.1 (fqC_e q2 r3 r4).symm (fun z1 z2 => ?_)
          rw [z2]; rfl
        · rw [if_pos (show (0 : Int32) < nI i from nI_lt (a := 0) (by omega) (by omega)), if_pos (by decide), B151_248_g49, jgo_some (d := d + 3) rfl (keep_c (d := d) hp.1 r5.1 r3 r4 1)]
          dsimp only [Option.toList_some, Option.toList_none, List.cons_append, List.nil_append]
          refine fin _ (if fC q2.1 q2.2 p.1 p.2 = 2 then (0, 0) else if fC q2.1 q2.2 p.1 p.2 = 1 then q2 else p) (Or.inr trivial) ?_ rfl (fun z1 z2 => ?_)
          · by_cases y1 : fC q2.1 q2.2 p.1 p.2 = 2
            · rw [if_pos y1]; exact fN0
            · rw [if_neg y1]
              by_cases y2 : fC q2.1 q2.2 p.1 p.2 = 1
              · rw [if_pos y2]; exact r5.1
              · rw [if_neg y2]; exact hp.1
          · rw [z1, z2]
            conv => rhs; unfold srd
            rw [if_neg (show ¬ (1 : Nat) = 0 by decide), if_neg i0]
            rfl
      · rw [if_neg (by decide)]
        by_cases i0 : i = 0
        · subst i0
          rw [if_neg (by decide)]
          refine fin L2 q2 (Or.inr trivial) r5.1 (fqC_e q2 r3 r4).symm (fun z1 z2 => ?_)
          rw [z2]; rfl
        · rw [if_pos (show (0 : Int32) < nI i from nI_lt (a := 0) (by omega) (by omega)), if_neg (by decide), B151_248_g49, jgo_some (d := d + 3) rfl (keep_c (d := d) hp.1 r5.1 r3 r4 (-1))]
          dsimp only [Option.toList_some, Option.toList_none, List.cons_append, List.nil_append]
          refine fin _ (if fC q2.1 q2.2 p.1 p.2 = 2 then (0, 0) else if fC q2.1 q2.2 p.1 p.2 = -1 then q2 else p) (Or.inr trivial) ?_ rfl (fun z1 z2 => ?_)
          · by_cases y1 : fC q2.1 q2.2 p.1 p.2 = 2
            · rw [if_pos y1]; exact fN0
            · rw [if_neg y1]
              by_cases y2 : fC q2.1 q2.2 p.1 p.2 = -1
              · rw [if_pos y2]; exact r5.1
              · rw [if_neg y2]; exact hp.1
          · rw [z1, z2]
            conv => rhs; unfold srd
            rw [if_neg (show ¬ (2 : Nat) = 0 by decide), if_neg i0]
            rfl
end EVAI
