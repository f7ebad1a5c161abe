/-! SEA: one round, first one -/
section SEBO
variable {d e : Nat} {I J : Nat → Nat → Int32} {L L' : Nat → Nat → Int64} {pa pb pu pw : Option Nat} {m : Nat → Int32} {o : Nat}
/-- what a round of the first one leaves alone -/
def rcF (I I' : Nat → Nat → Int32) (L L' : Nat → Nat → Int64) : Prop := (∀ c, c ≠ 60 → c ≠ 67 → c ≠ 69 → c ≠ 71 → c ≠ 81 → c ≠ 82 → I' c = I c) ∧ (∀ j, j ≠ 4 → j ≠ 5 → j ≠ 6 → I' 60 j = I 60 j) ∧ ∀ c, c < 60 ∨ 72 < c → L' c = L c
theorem rcF.rfl' : rcF I I L L := ⟨fun _ _ _ _ _ _ _ => rfl, fun _ _ _ _ => rfl, fun _ _ => rfl⟩
theorem rcF.trans {I1 I2 : Nat → Nat → Int32} {L1 L2 : Nat → Nat → Int64} (a : rcF I I1 L L1) (b : rcF I1 I2 L1 L2) : rcF I I2 L L2 := ⟨fun c c1 c2 c3 c4 c5 c6 => by rw [b.1 c c1 c2 c3 c4 c5 c6, a.1 c c1 c2 c3 c4 c5 c6], fun j j1 j2 j3 => by rw [b.2.1 j j1 j2 j3, a.2.1 j j1 j2 j3], fun c hc => by rw [b.2.2 c hc, a.2.2 c hc]⟩
theorem leF.rc {I' : Nat → Nat → Int32} {L' : Nat → Nat → Int64} (a : leF I I' L L') : rcF I I' L L' := ⟨fun c _ _ c3 c4 _ c6 => a.1 c c3 c4 c6, fun j _ _ _ => by rw [a.1 60 (by decide) (by decide) (by decide)], fun c hc => a.2.2.1 c (by omega) (by omega) (by omega) (by omega)⟩
theorem laF.rc {I' : Nat → Nat → Int32} {L' : Nat → Nat → Int64} (a : laF I I' L L') : rcF I I' L L' := ⟨fun c _ c2 _ _ _ c6 => a.1 c c2 c6, fun j _ _ _ => by rw [a.1 60 (by decide) (by decide)], fun c hc => a.2.2.1 c (by omega) (by omega) (by omega) (by omega)⟩
/-- the memory of levers over a lying down -/
theorem memK.la {I' : Nat → Nat → Int32} {L' : Nat → Nat → Int64} (h : memK m o I L) (a : laF I I' L L') : memK m o I' L' := fun i hi hk => by
  rw [a.1 71 (by decide) (by decide), a.1 60 (by decide) (by decide)] at hk
  rw [a.2.2.1 70 (by decide) (by decide) (by decide) (by decide), a.1 69 (by decide) (by decide)]
  exact h i hi hk
theorem turK.la {I' : Nat → Nat → Int32} {L' : Nat → Nat → Int64} {N : Nat} (h : turK N I) (a : laF I I' L L') : turK N I' := ⟨by rw [a.1 60 (by decide) (by decide)]; exact h.1, fun i hi => by rw [a.1 71 (by decide) (by decide)]; exact h.2 i hi⟩
theorem round_c2 (h : mQ m I J) (hr : ∀ p, p < 16 → spR m p) (hk : opKd m o) (o16 : o < 65536) (hE' : hlE m I) (h81 : I 81 0 = 16) (hn : nearK I) (ho : I 60 4 = nI o) {N : Nat} (ht : turK N I) (hN : N < 2000000000) {l1 l2 l3 l4 : Int32} (h4 : l4 ≠ 0) {i : Nat} (hi : i ≤ 16) (o6 : Option Value) : ∃ I' L', seaC m o I' J L' ∧ memK m o I' L' ∧ turK (N + 1) I' ∧ L' 61 4 = lI (VW m o 0 200000 0 0) ∧ rcF I I' L L' ∧ ((VW m o 0 200000 0 0 ≤ WT m o ∧ jv (d + 5) 102 26 [some (.ref 60), some (.int l1), some (.int l2), some (.int l3), some (.int l4), some (.int (nI i)), o6] [] (shC, I, L, pX pa pb pu pw) = jv (d + 5) 102 26 [some (.ref 60), some (.int l1), some (.int 1), some (.int l3), some (.int 0), some (.int (nI (i + 1))), some (.int 1048576)] [] (shC, I', L', pX pa pb pu pw)) ∨ (WT m o < VW m o 0 200000 0 0 ∧ hE m o = none ∧ jv (d + 5) 102 26 [some (.ref 60), some (.int l1), some (.int l2), some (.int l3), some (.int l4), some (.int (nI i)), o6] [] (shC, I, L, pX pa pb pu pw) = jv (d + 5) 102 26 [some (.ref 60), some (.int l1), some (.int 2), some (.int l3), some (.int 0), some (.int (nI (i + 1))), some (.int 1048576)] [] (shC, I', L', pX pa pb pu pw)) ∨ (WT m o < VW m o 0 200000 0 0 ∧ ∃ c b v, hE m o = some c ∧ tR m o c = some b ∧ tdP m o b c L' ∧ (∀ p, p < 16 → hasL m o p → I' 67 p = vI (liqL m p b c)) ∧ (∀ i, i < 32 → (v.toBitVec.getLsbD i = true ↔ flB m o (seaL m o (WT m o) b c) b c 8 i ∧ o.testBit i = false)) ∧ (-200001 ≤ seaL m o (WT m o) b c ∧ seaL m o (WT m o) b c ≤ 200001) ∧ jv (d + 5) 102 26 [some (.ref 60), some (.int l1), some (.int l2), some (.int l3), some (.int l4), some (.int (nI i)), o6] [] (shC, I, L, pX pa pb pu pw) = jv (d + 5) 102 26 [some (.ref 60), some (.int l1), some (.int 0), some (.int (l3 + (if v = 0 then 0 else 1))), some (.int v), some (.int (nI (i + 1))), some (.int (vI c))] [] (shC, j_up I' 60 4 (nI o ||| v), L', pX pa pb pu pw))) := by
  obtain ⟨I1, L1, a1, a2, a3, a4, a5, a6, a7, a8, a9, a10⟩ := load_c (d := d + 2) (L := L) (pa := pa) (pb := pb) (pu := pu) (pw := pw) h hr hk o16 hE' h81 hn ho
  have wb := WT_b h o
  have vb := VW_b h hr hk 200000 0 0
  have t1 : turK (N + 1) I1 := ⟨by rw [a5, ht.1, nI_1], fun k hk => by
    obtain ⟨q, q1, q2⟩ := ht.2 k hk
    exact ⟨q, by omega, by rw [a3 71 (by decide) (by decide)]; exact q2⟩⟩
  have m1 : memK m o I1 L1 := fun k hk he => by
    obtain ⟨q, q1, q2⟩ := ht.2 k hk
    rw [a3 71 (by decide) (by decide), q2, t1.1] at he
    have := (nI_eq (by omega) (by omega)).mp he
    omega
  have f1 : rcF I I1 L L1 := ⟨fun c c1 _ _ _ c5 _ => a3 c c1 c5, fun j _ j2 j3 => a4 j j2 j3, fun c hc => a6 c (by omega) (by omega)⟩
  have cm : lg_cmp (lI (WT m o)) (lI (VW m o 0 200000 0 0)) < 0 ↔ WT m o < VW m o 0 200000 0 0 := by
    rw [lcl, lI_toInt (by omega) (by omega), lI_toInt (by omega) (by omega)]
  have l7 : L1 60 7 = lI (WT m o) := a1.2.2.2.2.2.2.1
  have start : jv (d + 5) 102 26 [some (.ref 60), some (.int l1), some (.int l2), some (.int l3), some (.int l4), some (.int (nI i)), o6] [] (shC, I, L, pX pa pb pu pw) = jv (d + 5) 102 42 [some (.ref 60), some (.int l1), some (.int l2), some (.int l3), some (.int l4), some (.int (nI i)), o6] [] (shC, I1, L1, pX pa pb pu pw) := by
    rw [B102_26, if_neg (show ¬ (16 : Int32) < nI i from nI_nlt (a := 16) (by omega) (by decide)), if_neg h4, jgo_some (d := d + 4) rfl a10]
    rfl
  rw [start, B102_42, if_pos (by decide), show (4 : Int32).toNatClampNeg = 4 from rfl, l7, a2]
  by_cases q1 : WT m o < VW m o 0 200000 0 0
  case neg =>
    refine ⟨I1, L1, a1, m1, t1, a2, f1, Or.inl ⟨by omega, ?_⟩⟩
    rw [if_neg (fun y => q1 (cm.mp y)), B102_65, if_pos (by decide), show (4 : Int32).toNatClampNeg = 4 from rfl, l7, a2, if_neg (fun y => q1 (cm.mp y)), B102_97, if_neg (show ¬ (1 : Int32) = 0 by decide), B102_152, nI_1]
  rw [if_pos (cm.mpr q1)]
  obtain ⟨I2, L2, b1, b2, b3, b4, b5⟩ := heel_c (d := d) (pa := pa) (pb := pb) (pu := pu) (pw := pw) a1 m1 t1 q1
  have h2 := a1.frl b1
  have l7' : L2 60 7 = lI (WT m o) := h2.2.2.2.2.2.2.1
  have a2' : L2 61 4 = lI (VW m o 0 200000 0 0) := by rw [b1.2.2.1 61 (by decide) (by decide) (by decide) (by decide)]; exact a2
  rw [jgo_some (d := d + 4) rfl b5]
  dsimp only [Option.toList_some, Option.toList_none, List.cons_append, List.nil_append]
  rw [B102_60, B102_65, if_pos (by decide), show (4 : Int32).toNatClampNeg = 4 from rfl, l7', a2', if_pos (cm.mpr q1)]
  cases hc : hE m o with
  | none =>
    refine ⟨I2, L2, h2, b2, b3, a2', f1.trans b1.rc, Or.inr (Or.inl ⟨q1, rfl, ?_⟩)⟩
    dsimp only
    rw [if_pos rfl, B102_97, if_neg (show ¬ (2 : Int32) = 0 by decide), B102_152, nI_1]
  | some c =>
    obtain ⟨cb, lk1, b, hb⟩ := b4 c hc
    have bb := tR_b hb
    have ci : (vI c + 2048) = nI (c + 2048).toNat := by
      rw [show (2048 : Int32) = vI 2048 from rfl, vI_add, nI_vI]; congr 1; omega
    have tr : I2 69 (c + 2048).toNat = vI b := by
      have := (b2 (c + 2048).toNat (by omega) lk1).2 b
      rw [show (((c + 2048).toNat : Nat) : Int) - 2048 = c by omega] at this
      exact this hb
    obtain ⟨I3, L3, d1, d2, d3, d4⟩ := lay_down (d := d + 1) (pa := pa) (pb := pb) (pu := pu) (pw := pw) h2 (b := b) (c := c) (by omega) (by omega)
    have h3 := h2.la d1
    obtain ⟨-, -, -, s3, s4, -⟩ := seal_c (d := d) (pa := pa) (pb := pb) (pu := pu) (pw := pw) h2 (b := b) (c := c) (by omega) (by omega)
    have ha : -200001 ≤ seaL m o (WT m o) b c ∧ seaL m o (WT m o) b c ≤ 200001 := by omega
    obtain ⟨v, v1, v2⟩ := flood_c (d := d + 3) (L := L3) (pa := pa) (pb := pb) (pu := pu) (pw := pw) h3.1.1 h3.2.2.2.2.1 d2.1 d2.2.1 d2.2.2.1 ha (by omega) (by omega)
    refine ⟨I3, L3, h3, b2.la d1, b3.la d1, by rw [d1.2.2.2.2 4 (by decide)]; exact a2', (f1.trans b1.rc).trans d1.rc, Or.inr (Or.inr ⟨q1, c, b, v, rfl, hb, d2, d3, v1, ha, ?_⟩)⟩
    dsimp only
    rw [if_neg (show ¬ vI c = 1048576 from fun y => by
      have := congrArg Int32.toInt y
      rw [vI_i (by omega) (by omega)] at this
      have e9 : (1048576 : Int32).toInt = 1048576 := by decide
      omega), B102_97, if_pos rfl, ci, if_pos (j_in_nI (by omega) (by decide)), nI_clamp (by omega), tr, jgo_some (d := d + 4) rfl d4]
    dsimp only [Option.toList_some, Option.toList_none, List.cons_append, List.nil_append]
    rw [B102_122, jgo_some (d := d + 4) rfl v2]
    dsimp only [Option.toList_some, Option.toList_none, List.cons_append, List.nil_append]
    rw [B102_126, h3.2.2.2.2.1]
    by_cases z : v = 0
    · rw [if_pos z, if_pos z, B102_150, B102_152, nI_1]
    · rw [if_neg z, if_neg z, B102_150, B102_152, nI_1]
end SEBO
