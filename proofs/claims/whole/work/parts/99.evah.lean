/-! RULES: the first one's conditions -/
section EVAH
variable {wI : (Nat → Nat → Int32) → (Nat → Nat → Int64) → Prop} {I0 : Nat → Nat → Int32} {L0 : Nat → Nat → Int64} {R : Nat → Nat → Int32} {V : Nat → Int64} {ln : Nat → Nat} {tq : Nat → Int × Int → Int × Int} {wd : Nat → Int × Int} {wo : Nat → Int × Int → Int × Int} {pa pb pu : Option Nat}
variable {nl nt : Nat} {wl : Nat → Nat}
def jnC (dec x y : Int32) : Int32 := if x = dec then dec else if y = dec then dec else if x = 2 then 2 else y
theorem jn_eq {st x y : Int} (hst : st = 0 ∨ st = 1) (hx : v3 x) (hy : v3 y) : jnC (vI st) (vI x) (vI y) = vI (vdJ st x y) := by
  rcases hst with rfl | rfl <;> rcases hx with rfl | rfl | rfl <;> rcases hy with rfl | rfl | rfl <;> decide
theorem link_t38 {s h : Nat} {rho : Nat → Nat} {c : Nat → Int} (hW : wSt wI) {n2 last : Nat} {E : Nat → (Nat → Int) → Nat × Int × Int} {w' : Nat} (hs : truP 38 wI I0 L0 pa pb pu E h w' s rho n2) {I1 : Nat → Nat → Int32} {L1 : Nat → Nat → Int64} {f t1 D d n i : Nat} {v1 st : Int} (hst : st = 0 ∨ st = 1) (hf : w' ≤ f) (ht : t1 + 2000 * h ≤ 1000000) (hD : D + 1 + h ≤ 150) (hd : 73 + 5 * h ≤ d) (hc : cSt wI I0 L0 s rho c t1 I1 L1) (hq : v3 v1) (hl : last < 1201) (hi : i < 1201) (ho : I0 41 last = nI n2) (o7 : Option Value) : ∃ I2 L2 t2 v2 o7', jv d 145 24 [some (.ref 116), some (.int (nI n)), some (.int (nI D)), some (.int (vI st)), some (.int (vI v1)), some (.int (nI last)), some (.int (nI i)), o7] [] (shC, I1, L1, pX pa pb pu (some 38)) = jv d 145 24 [some (.ref 116), some (.int (nI n)), some (.int (nI D)), some (.int (vI st)), some (.int (vI (vdJ st v1 v2))), some (.int (I0 42 last)), some (.int (nI (i + 1))), o7'] [] (shC, I2, L2, pX pa pb pu (some 38)) ∧ cSt wI I0 L0 s rho c (t2 + 1) I2 L2 ∧ tSp t1 (E f c).1 v2 (E f c).2.1 (kH h) t2 ∧ (10000 < t1 → t2 = t1) := by
  obtain ⟨d, rfl⟩ : ∃ d', d = d' + 3 := ⟨d - 3, by omega⟩
  obtain ⟨I2, L2, t2, v2, r1, r2, r5, r6⟩ := hs f c t1 (D + 1) (d + 2) I1 L1 hf ht hD (by omega) hc
  have c3 : I1 41 last = nI n2 := by rw [hc.cell (by decide)]; exact ho
  have st2 := (r2.tk hW (t2 + 1))
  refine ⟨j_up I2 116 8 (nI (t2 + 1)), L2, t2, v2, some (.int (vI v2)), ?_, st2, r5, r6⟩
  have c4 : j_up I2 116 8 (nI (t2 + 1)) 42 last = I0 42 last := by rw [st2.cell (by decide)]
  rw [B145_24_g38, if_pos (show nI i < (1201 : Int32) from nI_lt (b := 1201) hi (by decide)), if_neg (nI_pos (by omega)), if_pos (j_in_nI hl (by decide)), nI_clamp (by omega), c3, show nI D + 1 = nI (D + 1) from nI_add D 1, jgo_some (d := d + 2) rfl r1]
  dsimp only [Option.toList_some, Option.toList_none, List.cons_append, List.nil_append]
  rw [B145_54_g38, r2.2.2.1, show nI t2 + 1 = nI (t2 + 1) from nI_add t2 1]
  have fin : ∀ z : Int32, jv (d + 3) 145 94 [some (.ref 116), some (.int (nI n)), some (.int (nI D)), some (.int (vI st)), some (.int (vI v1)), some (.int (nI last)), some (.int (nI i)), some (.int (vI v2))] [.int z] (shC, j_up I2 116 8 (nI (t2 + 1)), L2, pX pa pb pu (some 38)) = jv (d + 3) 145 24 [some (.ref 116), some (.int (nI n)), some (.int (nI D)), some (.int (vI st)), some (.int z), some (.int (I0 42 last)), some (.int (nI (i + 1))), some (.int (vI v2))] [] (shC, j_up I2 116 8 (nI (t2 + 1)), L2, pX pa pb pu (some 38)) := by
    intro z
    rw [B145_94_g38, if_pos (j_in_nI hl (by decide)), nI_clamp (by omega), c4, show nI i + 1 = nI (i + 1) from nI_add i 1]
  rw [← jn_eq hst hq r5.1]
  unfold jnC
  by_cases z1 : vI v1 = vI st
  · rw [if_pos z1, B145_78_g38, fin, if_pos z1]
  · rw [if_neg z1, if_neg z1]
    by_cases z2 : vI v2 = vI st
    · rw [if_pos z2, B145_78_g38, fin, if_pos z2]
    · rw [if_neg z2, if_neg z2]
      by_cases z3 : vI v1 = 2
      · rw [if_pos z3, fin, if_pos z3]
      · rw [if_neg z3, fin, if_neg z3]
theorem chain_t38 {s h : Nat} {rho : Nat → Nat} {c : Nat → Int} (hW : wSt wI) {m mt : Nat} {kd : Nat} {st : Int} (hkd : (kd = 12 ∧ st = 1) ∨ (kd = 13 ∧ st = 0)) (hs : ∀ w' n' k', w' ≤ 1200 → rel (fun c i => I0 (38 + 1 + c) i) R V m mt (wl m) h false w' s rho n' k' → truP 38 wI I0 L0 pa pb pu (fun f c => ev R V ln tq wd wo f false c k') h w' s rho n') : ∀ (j w n last k : Nat), chL (fun c i => I0 (38 + 1 + c) i) R kd (fun w' n' k' => rel (fun c i => I0 (38 + 1 + c) i) R V m mt (wl m) h false w' s rho n' k') j w n last k → w ≤ 1200 → ∀ f t D d I L, w ≤ f → t ≤ 10000 → h ≤ 75 → D + 1 + h ≤ 150 → 75 + 5 * h ≤ d → cSt wI I0 L0 s rho c t I L → ∃ I' L' t' v o7, jv d 145 0 [some (.ref 116), some (.int (nI n)), some (.int (nI D)), some (.int (vI st)), none, none, none, none] [] (shC, I, L, pX pa pb pu (some 38)) = jv d 145 24 [some (.ref 116), some (.int (nI n)), some (.int (nI D)), some (.int (vI st)), some (.int (vI v)), some (.int (I0 42 last)), some (.int (nI (j + 1))), o7] [] (shC, I', L', pX pa pb pu (some 38)) ∧ cSt wI I0 L0 s rho c t' I' L' ∧ tSp t (ev R V ln tq wd wo f false c k).1 v (ev R V ln tq wd wo f false c k).2.1 (kH h + j + 1) t' ∧ j < w := by
  have hst : st = 0 ∨ st = 1 := by omega
  intro j
  induction j with
  | zero =>
    intro w n last k hc hw f t D d I L hf ht hh hD hd hst'
    obtain ⟨a1, a2, a3, a4, a5, w', n1, k1, n2, k2, b1, b2, b3, b4, b5, b6, b7⟩ := hc
    obtain ⟨f, rfl⟩ : ∃ g, f = g + 1 := ⟨f - 1, by omega⟩
    obtain ⟨d, rfl⟩ : ∃ d', d = d' + 1 := ⟨d - 1, by omega⟩
    subst a1
    have c2 : I 40 last = nI n1 := by rw [hst'.cell (by decide)]; exact b2
    obtain ⟨I1, L1, t1, v1, r1, r2, r5, r6⟩ := hs w' n1 k1 (by omega) b4 f c t (D + 1) d I L (by omega) (by omega) hD (by omega) hst'
    have hk : (R 0 k = 20 ∨ R 0 k = 21) ∧ (if R 0 k = 20 then (1 : Int) else 0) = st := by
      rcases hkd with ⟨rfl, rfl⟩ | ⟨rfl, rfl⟩
      · rcases a5 with ⟨op, _⟩ | ⟨_, op⟩ | ⟨op, _⟩
        · exact absurd op (by decide)
        · exact ⟨Or.inl op, by rw [op]; rfl⟩
        · exact absurd op (by decide)
      · rcases a5 with ⟨op, _⟩ | ⟨op, _⟩ | ⟨_, op⟩
        · exact absurd op (by decide)
        · exact absurd op (by decide)
        · exact ⟨Or.inr op, by rw [op]; rfl⟩
    have t1b : t1 + 2000 * h ≤ 1000000 := by have := r5.bd; unfold kH at this; omega
    obtain ⟨I2, L2, t2, v2, o7, s1, s2, s3, s4⟩ := link_t38 (n := last) (i := 0) (o7 := none) hW (hs w' n2 k2 (by omega) b7) (f := f) (D := D) (d := d + 1) hst (by omega) t1b hD (by omega) r2 r5.1 a2 (by decide) b5
    refine ⟨I2, L2, t2 + 1, vdJ st v1 v2, o7, ?_, s2, ?_, by omega⟩
    · rw [B145_0_g38, if_pos (j_in_nI a2 (by decide)), nI_clamp (by omega), c2, show nI D + 1 = nI (D + 1) from nI_add D 1, jgo_some (d := d) rfl r1]
      dsimp only [Option.toList_some, Option.toList_none, List.cons_append, List.nil_append]
      rw [B145_16_g38]
      exact s1
    · rw [ev_f, if_neg (by rcases hk.1 with z | z <;> rw [z] <;> decide), if_pos hk.1, hk.2, nN b3 (rel_k b4).2, nN b6 (rel_k b7).2]
      exact tSp.two (A := 0) r5 s3 s4 (vdJ_3 hst) (fun z1 z2 => by rw [z1, z2])
  | succ j ih =>
    intro w n last k hc hw f t D d I L hf ht hh hD hd hst'
    obtain ⟨a1, a2, a3, a5, w', l', k', n2, k2, b1, b2, b3, b4, b5, b6, b7⟩ := hc
    obtain ⟨f, rfl⟩ : ∃ g, f = g + 1 := ⟨f - 1, by omega⟩
    obtain ⟨I1, L1, t1, v1, p7, r1, r2, r5, r6⟩ := ih w' n l' k' b2 (by omega) f t D d I L (by omega) ht hh hD hd hst'
    have hk : (R 0 k = 20 ∨ R 0 k = 21) ∧ (if R 0 k = 20 then (1 : Int) else 0) = st := by
      rcases hkd with ⟨rfl, rfl⟩ | ⟨rfl, rfl⟩
      · rcases a5 with ⟨op, _⟩ | ⟨_, op⟩ | ⟨op, _⟩
        · exact absurd op (by decide)
        · exact ⟨Or.inl op, by rw [op]; rfl⟩
        · exact absurd op (by decide)
      · rcases a5 with ⟨op, _⟩ | ⟨op, _⟩ | ⟨_, op⟩
        · exact absurd op (by decide)
        · exact absurd op (by decide)
        · exact ⟨Or.inr op, by rw [op]; rfl⟩
    have t1b : t1 + 2000 * h ≤ 1000000 := by have := r5.bd; unfold kH at this; omega
    have l4 : I0 42 l' = nI last := b3
    obtain ⟨I2, L2, t2, v2, o7, s1, s2, s3, s4⟩ := link_t38 (n := n) (i := j + 1) (o7 := p7) hW (hs w' n2 k2 (by omega) b7) (f := f) (D := D) (d := d) hst (by omega) t1b hD (by omega) r2 r5.1 a1 (by omega) b5
    refine ⟨I2, L2, t2 + 1, vdJ st v1 v2, o7, ?_, s2, ?_, by omega⟩
    · rw [r1, l4]
      exact s1
    · rw [ev_f, if_neg (by rcases hk.1 with z | z <;> rw [z] <;> decide), if_pos hk.1, hk.2, nN b4 (chL_n _ _ _ _ _ b2).2, nN b6 (rel_k b7).2]
      exact tSp.two (A := j + 1) r5 s3 s4 (vdJ_3 hst) (fun z1 z2 => by rw [z1, z2])
/-- a comparison -/
theorem comp_c38 {s h : Nat} {rho : Nat → Nat} {c : Nat → Int} (hW : wSt wI) {n n1 n2 w' : Nat} {E1 E2 : Nat → (Nat → Int) → Nat × Int × Int} (hs1 : numP 38 wI I0 L0 pa pb pu E1 h w' s rho n1) (hs2 : numP 38 wI I0 L0 pa pb pu E2 h w' s rho n2) {op : Int32} (ho : opQ (I0 43 n) op) (e1 : I0 40 n = nI n1) (e2 : I0 41 n = nI n2) (hn : n < 1201) {f t D d : Nat} {I : Nat → Nat → Int32} {L : Nat → Nat → Int64} (hf : w' ≤ f) (ht : t ≤ 10000) (hh : h ≤ 75) (hD : D + 1 + h ≤ 150) (hd : 75 + 5 * h ≤ d) (hst : cSt wI I0 L0 s rho c t I L) : ∃ I' L' t' v, jv d 146 0 [some (.ref 116), some (.int (nI n)), some (.int (nI D)), none, none, none, none, none, none] [] (shC, I, L, pX pa pb pu (some 38)) = some (some (.int (vI v)), (shC, I', L', pX pa pb pu (some 38))) ∧ cSt wI I0 L0 s rho c t' I' L' ∧ tSp t ((E1 f c).1 + (E2 f c).1 + 1) v (vdQ op (fC (E1 f c).2.1 (E1 f c).2.2 (E2 f c).2.1 (E2 f c).2.2)) (kH h + 1) t' := by
  obtain ⟨d, rfl⟩ : ∃ d', d = d' + 3 := ⟨d - 3, by omega⟩
  have c2 : I 40 n = nI n1 := by rw [hst.cell (by decide)]; exact e1
  obtain ⟨I1, L1, t1, q1, r1, r2, r3, r4, r5, r6⟩ := hs1 f c t (D + 1) (d + 2) I L hf (by omega) hD (by omega) hst
  have t1b : t1 + 2000 * h ≤ 1000000 := by have := r5.bd; unfold kH at this; omega
  have c3 : I1 41 n = nI n2 := by rw [r2.cell (by decide)]; exact e2
  obtain ⟨I2, L2, t2, q2, s1, s2, s3, s4, s5, s6⟩ := hs2 f c t1 (D + 1) (d + 2) I1 L1 hf t1b hD (by omega) r2
  have st3 := s2.tk hW (t2 + 1)
  have two := nSp.two (A := 0) (P := (vdQ op (fC (E1 f c).2.1 (E1 f c).2.2 (E2 f c).2.1 (E2 f c).2.2), 0)) (Q := (vdQ op (fC q1.1 q1.2 q2.1 q2.2), 0)) r5 s5 s6 (by
    have := vdQ_3 op (fC q1.1 q1.2 q2.1 q2.2)
    unfold v3 at this
    have hH : HG = 1000000000000000000 := rfl
    exact ⟨⟨by show -HG ≤ vdQ _ _; omega, by show vdQ _ _ ≤ HG; omega⟩, (by decide : (0 : Int) ≤ 0), (by decide : (0 : Int) ≤ HG)⟩) (fun z1 z2 => by rw [z1, z2])
  refine ⟨_, L2, t2 + 1, vdQ op (fC q1.1 q1.2 q2.1 q2.2), ?_, st3, ⟨vdQ_3 _ _, fun z => ⟨(two.2.1 z).1, congrArg Prod.fst (two.2.1 z).2⟩, two.2.2⟩⟩
  have c5 : j_up I2 116 8 (nI (t2 + 1)) 43 n = I0 43 n := by rw [st3.cell (by decide)]
  rw [B146_0_g38, if_pos (j_in_nI hn (by decide)), nI_clamp (by omega), c2, show nI D + 1 = nI (D + 1) from nI_add D 1, jgo_some (d := d + 2) rfl r1]
  dsimp only [Option.toList_some, Option.toList_none, List.cons_append, List.nil_append]
  rw [B146_16_g38, if_pos (j_in_nI hn (by decide)), nI_clamp (by omega), c3, show nI D + 1 = nI (D + 1) from nI_add D 1, jgo_some (d := d + 2) rfl s1, r3, r4]
  dsimp only [Option.toList_some, Option.toList_none, List.cons_append, List.nil_append]
  rw [B146_43_g38, s2.2.2.1, show nI t2 + 1 = nI (t2 + 1) from nI_add t2 1, s3, s4, jgo_some (d := d + 2) rfl (cmp3_c (d := d) r5.1.1 r5.1.d s5.1.1 s5.1.d)]
  dsimp only [Option.toList_some, Option.toList_none, List.cons_append, List.nil_append]
  rw [B146_67_g38, nI_clamp (by omega), c5]
  have fin : ∀ z : Int32, z = 0 ∨ z = 1 → ∀ o : Int32, jv (d + 3) 146 223 [some (.ref 116), some (.int (nI n)), some (.int (nI D)), some (.long (lI q1.1)), none, some (.long (lI q1.2)), none, some (.int o), some (.int z)] [] (shC, j_up I2 116 8 (nI (t2 + 1)), L2, pX pa pb pu (some 38)) = some (some (.int z), (shC, j_up I2 116 8 (nI (t2 + 1)), L2, pX pa pb pu (some 38))) := by
    intro z hz o
    rcases hz with rfl | rfl
    · rw [B146_223_g38, if_pos rfl, B146_233_g38]
    · rw [B146_223_g38, if_neg (by decide), B146_233_g38]
  generalize fC q1.1 q1.2 q2.1 q2.2 = o
  by_cases o2 : o = 2
  · subst o2; rw [if_pos rfl]; rfl
  rw [if_neg o2, if_pos (j_in_nI hn (by decide))]
  unfold vdQ
  rw [if_neg o2]
  rcases ho with ⟨h1, h2⟩ | ⟨h1, h2⟩ | ⟨h1, h2⟩ | ⟨h1, h2⟩ | ⟨h1, h2⟩ | ⟨h1, h2⟩ <;> rw [h1, h2]
  · rw [if_neg (by decide), if_neg (by decide), if_pos (by decide)]
    by_cases z : o = 0
    · rw [if_pos z, B146_146_g38, fin 1 (Or.inr rfl), if_pos rfl, if_pos z]; rfl
    · rw [if_neg z, B146_146_g38, fin 0 (Or.inl rfl), if_pos rfl, if_neg z]; rfl
  · rw [if_pos (by decide)]
    by_cases z : o = 0
    · rw [if_pos z, B146_161_g38, fin 0 (Or.inl rfl), if_neg (by decide), if_pos rfl, if_pos z]; rfl
    · rw [if_neg z, B146_161_g38, fin 1 (Or.inr rfl), if_neg (by decide), if_pos rfl, if_neg z]; rfl
  · rw [if_neg (by decide), if_pos (by decide)]
    by_cases z : o < 0
    · rw [if_pos z, B146_176_g38, fin 1 (Or.inr rfl), if_neg (by decide), if_neg (by decide), if_pos rfl, if_pos z]; rfl
    · rw [if_neg z, B146_176_g38, fin 0 (Or.inl rfl), if_neg (by decide), if_neg (by decide), if_pos rfl, if_neg z]; rfl
  · rw [if_neg (by decide), if_neg (by decide), if_neg (by decide), if_pos (by decide)]
    by_cases z : 0 < o
    · rw [if_pos z, B146_191_g38, fin 1 (Or.inr rfl), if_neg (by decide), if_neg (by decide), if_neg (by decide), if_pos rfl, if_pos z]; rfl
    · rw [if_neg z, B146_191_g38, fin 0 (Or.inl rfl), if_neg (by decide), if_neg (by decide), if_neg (by decide), if_pos rfl, if_neg z]; rfl
  · rw [if_neg (by decide), if_neg (by decide), if_neg (by decide), if_neg (by decide), if_pos (by decide)]
    by_cases z : 0 < o
    · rw [if_pos z, B146_206_g38, fin 0 (Or.inl rfl), if_neg (by decide), if_neg (by decide), if_neg (by decide), if_neg (by decide), if_pos rfl, if_pos z]; rfl
    · rw [if_neg z, B146_206_g38, fin 1 (Or.inr rfl), if_neg (by decide), if_neg (by decide), if_neg (by decide), if_neg (by decide), if_pos rfl, if_neg z]; rfl
  · rw [if_neg (by decide), if_neg (by decide), if_neg (by decide), if_neg (by decide), if_neg (by decide)]
    by_cases z : o < 0
    · rw [if_pos z, B146_221_g38, fin 0 (Or.inl rfl), if_neg (by decide), if_neg (by decide), if_neg (by decide), if_neg (by decide), if_neg (by decide), if_pos z]; rfl
    · rw [if_neg z, B146_221_g38, fin 1 (Or.inr rfl), if_neg (by decide), if_neg (by decide), if_neg (by decide), if_neg (by decide), if_neg (by decide), if_neg z]; rfl
theorem link_t49 {s h : Nat} {rho : Nat → Nat} {c : Nat → Int} (hW : wSt wI) {n2 last : Nat} {E : Nat → (Nat → Int) → Nat × Int × Int} {w' : Nat} (hs : truP 49 wI I0 L0 pa pb pu E h w' s rho n2) {I1 : Nat → Nat → Int32} {L1 : Nat → Nat → Int64} {f t1 D d n i : Nat} {v1 st : Int} (hst : st = 0 ∨ st = 1) (hf : w' ≤ f) (ht : t1 + 2000 * h ≤ 1000000) (hD : D + 1 + h ≤ 150) (hd : 73 + 5 * h ≤ d) (hc : cSt wI I0 L0 s rho c t1 I1 L1) (hq : v3 v1) (hl : last < 1201) (hi : i < 1201) (ho : I0 52 last = nI n2) (o7 : Option Value) : ∃ I2 L2 t2 v2 o7', jv d 145 24 [some (.ref 116), some (.int (nI n)), some (.int (nI D)), some (.int (vI st)), some (.int (vI v1)), some (.int (nI last)), some (.int (nI i)), o7] [] (shC, I1, L1, pX pa pb pu (some 49)) = jv d 145 24 [some (.ref 116), some (.int (nI n)), some (.int (nI D)), some (.int (vI st)), some (.int (vI (vdJ st v1 v2))), some (.int (I0 53 last)), some (.int (nI (i + 1))), o7'] [] (shC, I2, L2, pX pa pb pu (some 49)) ∧ cSt wI I0 L0 s rho c (t2 + 1) I2 L2 ∧ tSp t1 (E f c).1 v2 (E f c).2.1 (kH h) t2 ∧ (10000 < t1 → t2 = t1) := by
  obtain ⟨d, rfl⟩ : ∃ d', d = d' + 3 := ⟨d - 3, by omega⟩
  obtain ⟨I2, L2, t2, v2, r1, r2, r5, r6⟩ := hs f c t1 (D + 1) (d + 2) I1 L1 hf ht hD (by omega) hc
  have c3 : I1 52 last = nI n2 := by rw [hc.cell (by decide)]; exact ho
  have st2 := (r2.tk hW (t2 + 1))
  refine ⟨j_up I2 116 8 (nI (t2 + 1)), L2, t2, v2, some (.int (vI v2)), ?_, st2, r5, r6⟩
  have c4 : j_up I2 116 8 (nI (t2 + 1)) 53 last = I0 53 last := by rw [st2.cell (by decide)]
  rw [B145_24_g49, if_pos (show nI i < (1201 : Int32) from nI_lt (b := 1201) hi (by decide)), if_neg (nI_pos (by omega)), if_pos (j_in_nI hl (by decide)), nI_clamp (by omega), c3, show nI D + 1 = nI (D + 1) from nI_add D 1, jgo_some (d := d + 2) rfl r1]
  dsimp only [Option.toList_some, Option.toList_none, List.cons_append, List.nil_append]
  rw [B145_54_g49, r2.2.2.1, show nI t2 + 1 = nI (t2 + 1) from nI_add t2 1]
  have fin : ∀ z : Int32, jv (d + 3) 145 94 [some (.ref 116), some (.int (nI n)), some (.int (nI D)), some (.int (vI st)), some (.int (vI v1)), some (.int (nI last)), some (.int (nI i)), some (.int (vI v2))] [.int z] (shC, j_up I2 116 8 (nI (t2 + 1)), L2, pX pa pb pu (some 49)) = jv (d + 3) 145 24 [some (.ref 116), some (.int (nI n)), some (.int (nI D)), some (.int (vI st)), some (.int z), some (.int (I0 53 last)), some (.int (nI (i + 1))), some (.int (vI v2))] [] (shC, j_up I2 116 8 (nI (t2 + 1)), L2, pX pa pb pu (some 49)) := by
    intro z
    rw [B145_94_g49, if_pos (j_in_nI hl (by decide)), nI_clamp (by omega), c4, show nI i + 1 = nI (i + 1) from nI_add i 1]
  rw [← jn_eq hst hq r5.1]
  unfold jnC
  by_cases z1 : vI v1 = vI st
  · rw [if_pos z1, B145_78_g49, fin, if_pos z1]
  · rw [if_neg z1, if_neg z1]
    by_cases z2 : vI v2 = vI st
    · rw [if_pos z2, B145_78_g49, fin, if_pos z2]
    · rw [if_neg z2, if_neg z2]
      by_cases z3 : vI v1 = 2
      · rw [if_pos z3, fin, if_pos z3]
      · rw [if_neg z3, fin, if_neg z3]
theorem chain_t49 {s h : Nat} {rho : Nat → Nat} {c : Nat → Int} (hW : wSt wI) {m mt : Nat} {kd : Nat} {st : Int} (hkd : (kd = 12 ∧ st = 1) ∨ (kd = 13 ∧ st = 0)) (hs : ∀ w' n' k', w' ≤ 1200 → rel (fun c i => I0 (49 + 1 + c) i) R V m mt (wl m) h false w' s rho n' k' → truP 49 wI I0 L0 pa pb pu (fun f c => ev R V ln tq wd wo f false c k') h w' s rho n') : ∀ (j w n last k : Nat), chL (fun c i => I0 (49 + 1 + c) i) R kd (fun w' n' k' => rel (fun c i => I0 (49 + 1 + c) i) R V m mt (wl m) h false w' s rho n' k') j w n last k → w ≤ 1200 → ∀ f t D d I L, w ≤ f → t ≤ 10000 → h ≤ 75 → D + 1 + h ≤ 150 → 75 + 5 * h ≤ d → cSt wI I0 L0 s rho c t I L → ∃ I' L' t' v o7, jv d 145 0 [some (.ref 116), some (.int (nI n)), some (.int (nI D)), some (.int (vI st)), none, none, none, none] [] (shC, I, L, pX pa pb pu (some 49)) = jv d 145 24 [some (.ref 116), some (.int (nI n)), some (.int (nI D)), some (.int (vI st)), some (.int (vI v)), some (.int (I0 53 last)), some (.int (nI (j + 1))), o7] [] (shC, I', L', pX pa pb pu (some 49)) ∧ cSt wI I0 L0 s rho c t' I' L' ∧ tSp t (ev R V ln tq wd wo f false c k).1 v (ev R V ln tq wd wo f false c k).2.1 (kH h + j + 1) t' ∧ j < w := by
  have hst : st = 0 ∨ st = 1 := by omega
  intro j
  induction j with
  | zero =>
    intro w n last k hc hw f t D d I L hf ht hh hD hd hst'
    obtain ⟨a1, a2, a3, a4, a5, w', n1, k1, n2, k2, b1, b2, b3, b4, b5, b6, b7⟩ := hc
    obtain ⟨f, rfl⟩ : ∃ g, f = g + 1 := ⟨f - 1, by omega⟩
    obtain ⟨d, rfl⟩ : ∃ d', d = d' + 1 := ⟨d - 1, by omega⟩
    subst a1
    have c2 : I 51 last = nI n1 := by rw [hst'.cell (by decide)]; exact b2
    obtain ⟨I1, L1, t1, v1, r1, r2, r5, r6⟩ := hs w' n1 k1 (by omega) b4 f c t (D + 1) d I L (by omega) (by omega) hD (by omega) hst'
    have hk : (R 0 k = 20 ∨ R 0 k = 21) ∧ (if R 0 k = 20 then (1 : Int) else 0) = st := by
      rcases hkd with ⟨rfl, rfl⟩ | ⟨rfl, rfl⟩
      · rcases a5 with ⟨op, _⟩ | ⟨_, op⟩ | ⟨op, _⟩
        · exact absurd op (by decide)
        · exact ⟨Or.inl op, by rw [op]; rfl⟩
        · exact absurd op (by decide)
      · rcases a5 with ⟨op, _⟩ | ⟨op, _⟩ | ⟨_, op⟩
        · exact absurd op (by decide)
        · exact absurd op (by decide)
        · exact ⟨Or.inr op, by rw [op]; rfl⟩
    have t1b : t1 + 2000 * h ≤ 1000000 := by have := r5.bd; unfold kH at this; omega
    obtain ⟨I2, L2, t2, v2, o7, s1, s2, s3, s4⟩ := link_t49 (n := last) (i := 0) (o7 := none) hW (hs w' n2 k2 (by omega) b7) (f := f) (D := D) (d := d + 1) hst (by omega) t1b hD (by omega) r2 r5.1 a2 (by decide) b5
    refine ⟨I2, L2, t2 + 1, vdJ st v1 v2, o7, ?_, s2, ?_, by omega⟩
    · rw [B145_0_g49, if_pos (j_in_nI a2 (by decide)), nI_clamp (by omega), c2, show nI D + 1 = nI (D + 1) from nI_add D 1, jgo_some (d := d) rfl r1]
      dsimp only [Option.toList_some, Option.toList_none, List.cons_append, List.nil_append]
      rw [B145_16_g49]
      exact s1
    · rw [ev_f, if_neg (by rcases hk.1 with z | z <;> rw [z] <;> decide), if_pos hk.1, hk.2, nN b3 (rel_k b4).2, nN b6 (rel_k b7).2]
      exact tSp.two (A := 0) r5 s3 s4 (vdJ_3 hst) (fun z1 z2 => by rw [z1, z2])
  | succ j ih =>
    intro w n last k hc hw f t D d I L hf ht hh hD hd hst'
    obtain ⟨a1, a2, a3, a5, w', l', k', n2, k2, b1, b2, b3, b4, b5, b6, b7⟩ := hc
    obtain ⟨f, rfl⟩ : ∃ g, f = g + 1 := ⟨f - 1, by omega⟩
    obtain ⟨I1, L1, t1, v1, p7, r1, r2, r5, r6⟩ := ih w' n l' k' b2 (by omega) f t D d I L (by omega) ht hh hD hd hst'
    have hk : (R 0 k = 20 ∨ R 0 k = 21) ∧ (if R 0 k = 20 then (1 : Int) else 0) = st := by
      rcases hkd with ⟨rfl, rfl⟩ | ⟨rfl, rfl⟩
      · rcases a5 with ⟨op, _⟩ | ⟨_, op⟩ | ⟨op, _⟩
        · exact absurd op (by decide)
        · exact ⟨Or.inl op, by rw [op]; rfl⟩
        · exact absurd op (by decide)
      · rcases a5 with ⟨op, _⟩ | ⟨op, _⟩ | ⟨_, op⟩
        · exact absurd op (by decide)
        · exact absurd op (by decide)
        · exact ⟨Or.inr op, by rw [op]; rfl⟩
    have t1b : t1 + 2000 * h ≤ 1000000 := by have := r5.bd; unfold kH at this; omega
    have l4 : I0 53 l' = nI last := b3
    obtain ⟨I2, L2, t2, v2, o7, s1, s2, s3, s4⟩ := link_t49 (n := n) (i := j + 1) (o7 := p7) hW (hs w' n2 k2 (by omega) b7) (f := f) (D := D) (d := d) hst (by omega) t1b hD (by omega) r2 r5.1 a1 (by omega) b5
    refine ⟨I2, L2, t2 + 1, vdJ st v1 v2, o7, ?_, s2, ?_, by omega⟩
    · rw [r1, l4]
      exact s1
    · rw [ev_f, if_neg (by rcases hk.1 with z | z <;> rw [z] <;> decide), if_pos hk.1, hk.2, nN b4 (chL_n _ _ _ _ _ b2).2, nN b6 (rel_k b7).2]
      exact tSp.two (A := j + 1) r5 s3 s4 (vdJ_3 hst) (fun z1 z2 => by rw [z1, z2])
/-- a comparison -/
theorem comp_c49 {s h : Nat} {rho : Nat → Nat} {c : Nat → Int} (hW : wSt wI) {n n1 n2 w' : Nat} {E1 E2 : Nat → (Nat → Int) → Nat × Int × Int} (hs1 : numP 49 wI I0 L0 pa pb pu E1 h w' s rho n1) (hs2 : numP 49 wI I0 L0 pa pb pu E2 h w' s rho n2) {op : Int32} (ho : opQ (I0 54 n) op) (e1 : I0 51 n = nI n1) (e2 : I0 52 n = nI n2) (hn : n < 1201) {f t D d : Nat} {I : Nat → Nat → Int32} {L : Nat → Nat → Int64} (hf : w' ≤ f) (ht : t ≤ 10000) (hh : h ≤ 75) (hD : D + 1 + h ≤ 150) (hd : 75 + 5 * h ≤ d) (hst : cSt wI I0 L0 s rho c t I L) : ∃ I' L' t' v, jv d 146 0 [some (.ref 116), some (.int (nI n)), some (.int (nI D)), none, none, none, none, none, none] [] (shC, I, L, pX pa pb pu (some 49)) = some (some (.int (vI v)), (shC, I', L', pX pa pb pu (some 49))) ∧ cSt wI I0 L0 s rho c t' I' L' ∧ tSp t ((E1 f c).1 + (E2 f c).1 + 1) v (vdQ op (fC (E1 f c).2.1 (E1 f c).2.2 (E2 f c).2.1 (E2 f c).2.2)) (kH h + 1) t' := by
  obtain ⟨d, rfl⟩ : ∃ d', d = d' + 3 := ⟨d - 3, by omega⟩
  have c2 : I 51 n = nI n1 := by rw [hst.cell (by decide)]; exact e1
  obtain ⟨I1, L1, t1, q1, r1, r2, r3, r4, r5, r6⟩ := hs1 f c t (D + 1) (d + 2) I L hf (by omega) hD (by omega) hst
  have t1b : t1 + 2000 * h ≤ 1000000 := by have := r5.bd; unfold kH at this; omega
  have c3 : I1 52 n = nI n2 := by rw [r2.cell (by decide)]; exact e2
  obtain ⟨I2, L2, t2, q2, s1, s2, s3, s4, s5, s6⟩ := hs2 f c t1 (D + 1) (d + 2) I1 L1 hf t1b hD (by omega) r2
  have st3 := s2.tk hW (t2 + 1)
  have two := nSp.two (A := 0) (P := (vdQ op (fC (E1 f c).2.1 (E1 f c).2.2 (E2 f c).2.1 (E2 f c).2.2), 0)) (Q := (vdQ op (fC q1.1 q1.2 q2.1 q2.2), 0)) r5 s5 s6 (by
    have := vdQ_3 op (fC q1.1 q1.2 q2.1 q2.2)
    unfold v3 at this
    have hH : HG = 1000000000000000000 := rfl
    exact ⟨⟨by show -HG ≤ vdQ _ _; omega, by show vdQ _ _ ≤ HG; omega⟩, (by decide : (0 : Int) ≤ 0), (by decide : (0 : Int) ≤ HG)⟩) (fun z1 z2 => by rw [z1, z2])
  refine ⟨_, L2, t2 + 1, vdQ op (fC q1.1 q1.2 q2.1 q2.2), ?_, st3, ⟨vdQ_3 _ _, fun z => ⟨(two.2.1 z).1, congrArg Prod.fst (two.2.1 z).2⟩, two.2.2⟩⟩
  have c5 : j_up I2 116 8 (nI (t2 + 1)) 54 n = I0 54 n := by rw [st3.cell (by decide)]
  rw [B146_0_g49, if_pos (j_in_nI hn (by decide)), nI_clamp (by omega), c2, show nI D + 1 = nI (D + 1) from nI_add D 1, jgo_some (d := d + 2) rfl r1]
  dsimp only [Option.toList_some, Option.toList_none, List.cons_append, List.nil_append]
  rw [B146_16_g49, if_pos (j_in_nI hn (by decide)), nI_clamp (by omega), c3, show nI D + 1 = nI (D + 1) from nI_add D 1, jgo_some (d := d + 2) rfl s1, r3, r4]
  dsimp only [Option.toList_some, Option.toList_none, List.cons_append, List.nil_append]
  rw [B146_43_g49, s2.2.2.1, show nI t2 + 1 = nI (t2 + 1) from nI_add t2 1, s3, s4, jgo_some (d := d + 2) rfl (cmp3_c (d := d) r5.1.1 r5.1.d s5.1.1 s5.1.d)]
  dsimp only [Option.toList_some, Option.toList_none, List.cons_append, List.nil_append]
  rw [B146_67_g49, nI_clamp (by omega), c5]
  have fin : ∀ z : Int32, z = 0 ∨ z = 1 → ∀ o : Int32, jv (d + 3) 146 223 [some (.ref 116), some (.int (nI n)), some (.int (nI D)), some (.long (lI q1.1)), none, some (.long (lI q1.2)), none, some (.int o), some (.int z)] [] (shC, j_up I2 116 8 (nI (t2 + 1)), L2, pX pa pb pu (some 49)) = some (some (.int z), (shC, j_up I2 116 8 (nI (t2 + 1)), L2, pX pa pb pu (some 49))) := by
    intro z hz o
    rcases hz with rfl | rfl
    · rw [B146_223_g49, if_pos rfl, B146_233_g49]
    · rw [B146_223_g49, if_neg (by decide), B146_233_g49]
  generalize fC q1.1 q1.2 q2.1 q2.2 = o
  by_cases o2 : o = 2
  · subst o2; rw [if_pos rfl]; rfl
  rw [if_neg o2, if_pos (j_in_nI hn (by decide))]
  unfold vdQ
  rw [if_neg o2]
  rcases ho with ⟨h1, h2⟩ | ⟨h1, h2⟩ | ⟨h1, h2⟩ | ⟨h1, h2⟩ | ⟨h1, h2⟩ | ⟨h1, h2⟩ <;> rw [h1, h2]
  · rw [if_neg (by decide), if_neg (by decide), if_pos (by decide)]
    by_cases z : o = 0
    · rw [if_pos z, B146_146_g49, fin 1 (Or.inr rfl), if_pos rfl, if_pos z]; rfl
    · rw [if_neg z, B146_146_g49, fin 0 (Or.inl rfl), if_pos rfl, if_neg z]; rfl
  · rw [if_pos (by decide)]
    by_cases z : o = 0
    · rw [if_pos z, B146_161_g49, fin 0 (Or.inl rfl), if_neg (by decide), if_pos rfl, if_pos z]; rfl
    · rw [if_neg z, B146_161_g49, fin 1 (Or.inr rfl), if_neg (by decide), if_pos rfl, if_neg z]; rfl
  · rw [if_neg (by decide), if_pos (by decide)]
    by_cases z : o < 0
    · rw [if_pos z, B146_176_g49, fin 1 (Or.inr rfl), if_neg (by decide), if_neg (by decide), if_pos rfl, if_pos z]; rfl
    · rw [if_neg z, B146_176_g49, fin 0 (Or.inl rfl), if_neg (by decide), if_neg (by decide), if_pos rfl, if_neg z]; rfl
  · rw [if_neg (by decide), if_neg (by decide), if_neg (by decide), if_pos (by decide)]
    by_cases z : 0 < o
    · rw [if_pos z, B146_191_g49, fin 1 (Or.inr rfl), if_neg (by decide), if_neg (by decide), if_neg (by decide), if_pos rfl, if_pos z]; rfl
    · rw [if_neg z, B146_191_g49, fin 0 (Or.inl rfl), if_neg (by decide), if_neg (by decide), if_neg (by decide), if_pos rfl, if_neg z]; rfl
  · rw [if_neg (by decide), if_neg (by decide), if_neg (by decide), if_neg (by decide), if_pos (by decide)]
    by_cases z : 0 < o
    · rw [if_pos z, B146_206_g49, fin 0 (Or.inl rfl), if_neg (by decide), if_neg (by decide), if_neg (by decide), if_neg (by decide), if_pos rfl, if_pos z]; rfl
    · rw [if_neg z, B146_206_g49, fin 1 (Or.inr rfl), if_neg (by decide), if_neg (by decide), if_neg (by decide), if_neg (by decide), if_pos rfl, if_neg z]; rfl
  · rw [if_neg (by decide), if_neg (by decide), if_neg (by decide), if_neg (by decide), if_neg (by decide)]
    by_cases z : o < 0
    · rw [if_pos z, B146_221_g49, fin 0 (Or.inl rfl), if_neg (by decide), if_neg (by decide), if_neg (by decide), if_neg (by decide), if_neg (by decide), if_pos z]; rfl
    · rw [if_neg z, B146_221_g49, fin 1 (Or.inr rfl), if_neg (by decide), if_neg (by decide), if_neg (by decide), if_neg (by decide), if_neg (by decide), if_neg z]; rfl
end EVAH
