/-! PLATES: nest() is answered alike -/
section NESTO
variable {d e : Nat} {pa pb pu pw : Option Nat}
/-- what nest() needs of a right model -/
def plM (w h : Nat) (a : Nat → Nat → Nat) (cn : Nat → Nat) (I J : Nat → Nat → Int32) : Prop := w ≤ 64 ∧ h ≤ 48 ∧ I 2 4 = nI w ∧ I 2 5 = nI h ∧ J 6 4 = nI w ∧ J 6 5 = nI h ∧ (∀ k, k < 8 → ∀ j, j < 12 → a k j < 2 ^ 24 ∧ I 2 (600 + k * 14 + j) = nI (a k j) ∧ J 6 (600 + k * 14 + j) = nI (a k j)) ∧ (∀ k, k < 8 → cn k ≤ 4 ∧ I 2 (600 + k * 14 + 12) = nI (cn k) ∧ J 6 (600 + k * 14 + 12) = nI (cn k)) ∧ (∀ k, k < 8 → I 2 (600 + k * 14 + 13) = J 6 (600 + k * 14 + 13)) ∧ ∀ k, k < 8 → 0 < cn k → 0 < cellN (a k) 12 ∧ ∃ W H, plIn (plV (fun j => nI (a k j))) W H
def nsSt : Type := ((Nat × Nat) × (Nat → Nat → Nat → Prop) × (Nat → Nat → Nat → Nat) × Int32) × (Nat → Nat → Int32) × (Nat → Nat → Int64) × (Nat → Nat → Int32) × Option Value
/-- what nest() leaves as it was -/
def nestFr (I I' J J' : Nat → Nat → Int32) (L L1 : Nat → Nat → Int64) : Prop := (∀ c, c ≠ 83 → c ≠ 84 → c ≠ 85 → c ≠ 86 → c ≠ 87 → c ≠ 88 → c ≠ 90 → c ≠ 92 → c ≠ 93 → c ≠ 116 → I' c = I c) ∧ (∀ f, I' 116 f = if f = 10 then 0 else I 116 f) ∧ (∀ f, 7 < f → I' 83 f = I 83 f) ∧ (∀ c, c ≠ 89 → c ≠ 91 → L1 c = L c) ∧ (∀ c, c ≠ 0 → (c < 48 ∨ 57 < c) → J' c = J c) ∧ ∀ f, f ≠ 87 → f ≠ 88 → f ≠ 89 → f ≠ 99 → J' 0 f = J 0 f
theorem nest_go {I J : Nat → Nat → Int32} {L L' : Nat → Nat → Int64} {w h g : Nat} {a : Nat → Nat → Nat} {cn : Nat → Nat} (hM : plM w h a cn I J) (hr : rCst J) (hg : g < 4) (hdI : I 0 11 = 0) (hdJ : J 0 18 = 0) : ∃ m I' J' L1, nestFr I I' J J' L L1 ∧ I' 83 0 = 1 ∧ J' 0 87 = 1 ∧ pieceRel I' J' ∧ sheetRel I' J' ∧ jv (d + 4) 203 0 [some (.ref 0), some (.int (nI g))] [] (shC, I, L, pX pa pb pu pw) = some (some (.int (nI m)), (shC, I', L1, pX pa pb pu pw)) ∧ jv (e + 4) 334 0 [some (.ref 0), some (.int (nI g)), none] [] (shR, J, L', pR) = some (some (.int (nI m)), (shR, J', L', pR)) := by
  obtain ⟨hw, hh, i4, i5, j4, j5, hA, hC, h13, hpl⟩ := hM
  have q2 : j_up I 116 10 0 2 = I 2 := j_up_cell _ (by decide) _ _
  obtain ⟨I1, L2, c1, c2, c3, c4, c5, c6, c7, c8, c9, c10, c11⟩ := nest_c0 (d := d + 2) (L := L) (pa := pa) (pb := pb) (pu := pu) (pw := pw) (I := j_up I 116 10 0) (g := g) hw hh (by rw [q2, i4]) (by rw [q2, i5])
  obtain ⟨od, J1, r1, r2, r3, r4, LS, r6, r7, r8⟩ := nest_r0 (e := e) (L' := L') (a := a) (cn := cn) (g := g) hr hg hdJ (fun k hk j hj => ⟨(hA k hk j hj).1, (hA k hk j hj).2.2⟩) (fun k hk => ⟨(hC k hk).1, (hC k hk).2.2⟩)
  have j6 : J1 6 = J 6 := r1 6 (by decide) (by decide) (by decide) (by decide) (by decide)
  have i2 : I1 2 = I 2 := by rw [c1 2 (by decide) (by decide), q2]
  have S0 : nsR w h (psN cn od 0) (fun _ _ _ => False) (fun _ _ _ => 0) 0 I1 J1 L2 := ⟨c9, r6, c10, r7, fun _ _ _ => Nat.zero_le _, fun _ _ _ _ => rfl, fun _ _ _ _ => rfl, c3, c4, r4, Nat.zero_le _, fun k hk => absurd hk (Nat.not_lt_zero _)⟩
  obtain ⟨⟨⟨⟨r, m⟩, nr, o, dn⟩, I2, L3, J2, o5⟩, ⟨b1, b2, b3, b4, b5, b6, b7⟩, k1, k2⟩ := j_run2 (α := nsSt) (fun i t => jv (d + 3) 113 58 [some (.ref 83), some (.ref 1), some (.int (nI g)), some (.int t.1.2.2.2), some (.int (nI i)), t.2.2.2.2] [] (shC, t.2.1, t.2.2.1, pX pa pb pu pw)) (fun i t => jv (e + 4) 334 66 [some (.ref 0), some (.int (nI g)), some (.int (nI (psN cn od t.1.1.1)))] [] (shR, t.2.2.2.1, L', pR)) (fun i t => t.1.1.1 ≤ 8 ∧ (i ≤ t.1.1.1 ∨ ∀ q, t.1.1.1 ≤ q → q < 8 → cn (od q) = 0) ∧ (∀ k, k < 8 → (ibit k t.1.2.2.2 ↔ 0 < cn k ∧ ∃ q, q < t.1.1.1 ∧ od q = k)) ∧ nsR w h (psN cn od t.1.1.1) t.1.2.1 t.1.2.2.1 t.1.1.2 t.2.1 t.2.2.2.1 t.2.2.1 ∧ frM I1 t.2.1 ∧ (∀ c, c ≠ 89 → c ≠ 91 → t.2.2.1 c = L2 c) ∧ frQ J1 t.2.2.2.1) 8 (fun i hi t ht => by
    obtain ⟨⟨⟨r, m⟩, nr, o, dn⟩, I2, L3, J2, o5⟩ := t
    obtain ⟨b1, b2, b3, b4, b5, b6, b7⟩ := ht
    dsimp only at b1 b2 b3 b4 b5 b6 b7 ⊢
    have i2' : I2 2 = I 2 := by rw [b5.1 2 (by decide) (by decide) (by decide) (by decide) (by decide) (by decide) (by decide) (by decide) (by decide), i2]
    have j6' : J2 6 = J 6 := by rw [b7.1 6 (by decide) (by decide) (by decide) (by decide) (by decide) (by decide) (by decide) (by decide) (by decide), j6]
    obtain ⟨r', m', nr', o', dn', I3, L4, J3, g1, g2, g3, g4, g5, g6, g7, ⟨z5, g8⟩, g9⟩ := next_sim (d := d) (e := e) (L' := L') (pa := pa) (pb := pb) (pu := pu) (pw := pw) (i := i) LS (rCst_eq1 hr (fun c hc h6 => by rw [b7.1 c hc (by omega) (by omega) (by omega) (by omega) (by omega) (by omega) (by omega) (by omega), r1 c hc (by omega) (by omega) (by omega) (by omega)])) hg hi b1 b2 b3 hpl (fun k hk j hj => ⟨(hA k hk j hj).1, by rw [i2']; exact (hA k hk j hj).2.1⟩) (fun k hk => ⟨(hC k hk).1, by rw [i2']; exact (hC k hk).2.1⟩) (fun k hk j hj => by rw [j6']; exact (hA k hk j hj).2.2) (fun k hk => by rw [i2', j6']; exact h13 k hk) (by rw [b7.2 88 (by decide) (by decide)]; exact LS.2.1) (b7.1 48 (by decide) (by decide) (by decide) (by decide) (by decide) (by decide) (by decide) (by decide) (by decide)) (by rw [j6', j4]) (by rw [j6', j5]) hw hh (by rw [b5.2 3 (by decide) (by decide), c5]) (by rw [b5.2 4 (by decide) (by decide), c6]) (by rw [b5.2 5 (by decide) (by decide), c7]) b4 o5
    exact ⟨(((r', m'), nr', o', dn'), I3, L4, J3, z5), ⟨g1, g2, g3, g4, ⟨fun c x1 x2 x3 x4 x5 x6 x7 x8 x9 => (g5.1 c x1 x2 x3 x4 x5 x6 x7 x8 x9).trans (b5.1 c x1 x2 x3 x4 x5 x6 x7 x8 x9), fun f x1 x2 => (g5.2 f x1 x2).trans (b5.2 f x1 x2)⟩, fun c x1 x2 => (g6 c x1 x2).trans (b6 c x1 x2), ⟨fun c x0 x1 x2 x3 x4 x5 x6 x7 x8 => (g7.1 c x0 x1 x2 x3 x4 x5 x6 x7 x8).trans (b7.1 c x0 x1 x2 x3 x4 x5 x6 x7 x8), fun f x1 x2 => (g7.2 f x1 x2).trans (b7.2 f x1 x2)⟩⟩, g8, g9⟩) (((0, 0), (fun _ _ _ => False), (fun _ _ _ => 0), 0), I1, L2, J1, none) ⟨Nat.zero_le _, Or.inl (Nat.le_refl _), fun k hk => ⟨fun z => absurd z (ibit_0 k), fun z => by
      obtain ⟨-, q, z, -⟩ := z
      exact absurd z (Nat.not_lt_zero _)⟩, S0, ⟨fun _ _ _ _ _ _ _ _ _ _ => rfl, fun _ _ _ => rfl⟩, fun _ _ _ => rfl, ⟨fun _ _ _ _ _ _ _ _ _ _ => rfl, fun _ _ _ => rfl⟩⟩
  dsimp only at b1 b2 b3 b4 b5 b6 b7 k1 k2
  have hps : psN cn od 8 = psN cn od r := by
    rcases b2 with z | z
    · rw [show r = 8 by omega]
    · exact ps_same b1 z
  rw [← hps] at b4
  obtain ⟨n1, n2, n3, n4, n5, n6, n7, n8, n9, n10, n11, n12⟩ := id b4
  have hN := ps_le (cn := cn) (od := od) (r := 8) (fun r' h => (hC _ (LS.2.2.1 r' h).1).1)
  have x83 : ∀ f, j_up I2 83 0 1 83 f = if f = 0 then 1 else I2 83 f := fun f => j_up_own _ _ _ _ _
  have xo : ∀ c, c ≠ 83 → j_up I2 83 0 1 c = I2 c := fun c hc => j_up_cell _ hc _ _
  have j6' : J2 6 = J 6 := by rw [b7.1 6 (by decide) (by decide) (by decide) (by decide) (by decide) (by decide) (by decide) (by decide) (by decide), j6]
  refine ⟨m, j_up I2 83 0 1, J2, L3, ⟨fun c x1 x2 x3 x4 x5 x6 x7 x8 x9 x10 => by rw [xo c x1, b5.1 c x1 x2 x3 x4 x5 x6 x7 x8 x9, c1 c x1 x7, j_up_cell _ x10], fun f => by rw [xo 116 (by decide), b5.1 116 (by decide) (by decide) (by decide) (by decide) (by decide) (by decide) (by decide) (by decide) (by decide), c1 116 (by decide) (by decide), j_up_own], fun f hf => by rw [x83, if_neg (by omega), b5.2 f (by omega) (by omega), c2 f (by omega) (by omega) (by omega) (by omega) (by omega), j_up_cell _ (by decide)], fun c x1 x2 => by rw [b6 c x1 x2, c8 c x1], fun c x0 x1 => by rw [b7.1 c x0 (by omega) (by omega) (by omega) (by omega) (by omega) (by omega) (by omega) (by omega), r1 c x0 (by omega) (by omega) (by omega) (by omega)], fun f x1 x2 x3 x4 => by rw [b7.2 f x4 x3, r2 f x1 x2 x3]⟩, by rw [x83, if_pos rfl], by rw [b7.2 87 (by decide) (by decide), r3], ?_, ?_, ?_, ?_⟩
  · refine ⟨psN cn od 8, by omega, by rw [x83, if_neg (by decide), n8], by rw [b7.2 88 (by decide) (by decide)]; exact LS.2.1, by rw [x83, if_neg (by decide), n9, n10], fun k hk => ?_⟩
    rw [xo 84 (by decide), xo 85 (by decide), xo 86 (by decide), xo 87 (by decide), xo 88 (by decide)]
    exact n12 k hk
  · refine ⟨w, h, o, hw, hh, by rw [x83, if_neg (by decide), b5.2 3 (by decide) (by decide), c5], by rw [x83, if_neg (by decide), b5.2 4 (by decide) (by decide), c6], by rw [j6', j4], by rw [j6', j5], fun s x y => by have := n5 s x y; omega, fun s hs x y hx hy => ?_, fun s hs x y hx hy => n4 s hs x y hx hy, n6, n7⟩
    rw [xo 90 (by decide)]
    exact n3 s hs x y hx hy
  · have kc : jv (d + 3) 113 0 [some (.ref 83), some (.ref 1), some (.int (nI g)), none, none, none] [] (shC, j_up I 116 10 0, L, pX pa pb pu pw) = some (none, (shC, j_up I2 83 0 1, L3, pX pa pb pu pw)) := by
      refine c11.trans (k1.trans ?_)
      rw [B113_58, if_neg (by decide), if_pos (by decide)]
    rw [B203_0, if_neg (show ¬ nI g < 0 from nI_nlt (b := 0) (by omega) (by omega)), if_neg (show ¬ (3 : Int32) < nI g from nI_nlt (a := 3) (by omega) (by decide)), if_pos hdI, if_pos (by decide), jgo_some (d := d + 3) rfl kc]
    dsimp only [Option.toList_none, List.nil_append]
    rw [B203_41, x83, if_neg (by decide), n9]
  · refine r8.trans (k2.trans ?_)
    rw [B334_66, b7.2 88 (by decide) (by decide), LS.2.1, ← hps, if_neg (nI_nlt (Nat.le_refl _) (by omega)), n10]
end NESTO
