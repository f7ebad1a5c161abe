/-! PLATES: lay() of the class, to its end -/
section NESTA
variable {d e : Nat} {pa pb pu pw : Option Nat} {w h W H : Nat} {nr : Nat → Nat → Nat → Prop} {o : Nat → Nat → Nat → Nat} {pl : Nat → Nat → Prop}
theorem lc_row {I : Nat → Nat → Int32} {L : Nat → Nat → Int64} (G : plIn pl W H) (S : shpC pl W H I L) {p s x y t g r : Nat} {Q : Nat → Nat → Nat → Prop} (hw : w ≤ 64) (hh : h ≤ 48) (hp : p < 32) (hs : s < 6) (ht : t < 4) (hg : g < 4) (hr : r < tlN W H t) (hxw : x < w) (hyr : y + r < h) (hf : fitP w h nr pl W H s x y t) (h86 : I 86 p = nI x) (h87 : I 87 p = nI y) (h88 : I 88 p = nI t) (e3 : I 83 3 = nI w) (e5 : I 83 5 = nI g) {nq : Nat → Nat → Nat → Prop} (B : barC nq L) (O : ownC w h (layF o Q p) I) (q : Nat → Option Value) : ∃ I' L', ∃ q' : Nat → Option Value, (∀ c, c ≠ 90 → I' c = I c) ∧ (∀ c, c ≠ 89 → L' c = L c) ∧ barC (fun s' X Y => nq s' X Y ∨ (s' = s ∧ ∃ i j, pl i j ∧ tnY W H t i j = r ∧ (x + tnX W H t i j ≤ X + g ∧ X ≤ x + tnX W H t i j + g) ∧ (y + tnY W H t i j ≤ Y + g ∧ Y ≤ y + tnY W H t i j + g))) L' ∧ ownC w h (layF o (fun s' X Y => Q s' X Y ∨ (s' = s ∧ ∃ i j, pl i j ∧ tnY W H t i j = r ∧ X = x + tnX W H t i j ∧ Y = y + tnY W H t i j)) p) I' ∧ jv d 119 12 [some (.ref 83), some (.int (nI p)), some (.int (nI (48 * s))), some (.int (nI r)), q 4, q 5, q 6, q 7, q 8, q 9] [] (shC, I, L, pX pa pb pu pw) = jv d 119 12 [some (.ref 83), some (.int (nI p)), some (.int (nI (48 * s))), some (.int (nI (r + 1))), q' 4, q' 5, q' 6, q' 7, q' 8, q' 9] [] (shC, I', L', pX pa pb pu pw) := by
  have jp : j_in (nI p) 32 = true := j_in_nI hp (by decide)
  have h24 := (wd_le (t := t) G).2
  obtain ⟨s1, s2, s3⟩ := S t ht
  generalize hrow : L 91 (24 * t + r) <<< ((nI x).toInt64 &&& 63) = row
  have hb : ∀ X, lbit X row ↔ ∃ i j, pl i j ∧ tnY W H t i j = r ∧ X = x + tnX W H t i j := fun X => by
    rw [← hrow, lbit_shl (by omega), s3 r (by omega)]
    constructor
    · rintro ⟨a1, a2, i, j, a3, a4, a5⟩
      exact ⟨i, j, a3, a5, by omega⟩
    · rintro ⟨i, j, a3, a4, a5⟩
      have := (hf i j a3).1
      exact ⟨by omega, by omega, i, j, a3, by omega, a4⟩
  have st : jv d 119 12 [some (.ref 83), some (.int (nI p)), some (.int (nI (48 * s))), some (.int (nI r)), q 4, q 5, q 6, q 7, q 8, q 9] [] (shC, I, L, pX pa pb pu pw) = jv d 119 65 [some (.ref 83), some (.int (nI p)), some (.int (nI (48 * s))), some (.int (nI r)), some (.long row), none, some (.int (nI (y + r))), some (.int (nI 0)), q 8, q 9] [] (shC, I, L, pX pa pb pu pw) := by
    have e1 : nI t * 24 + nI r = nI (24 * t + r) := by
      rw [show nI t * 24 = nI (t * 24) from nI_mul t 24, nI_add, Nat.mul_comm]
    rw [B119_12, if_pos jp, nI_clamp (n := p) (by omega), h88, if_pos (j_in_nI ht (by decide)), nI_clamp (n := t) (by omega), s2, if_pos (nI_lt hr (by omega)), if_pos jp, e1, if_pos (j_in_nI (by omega) (by decide)), if_pos jp, if_pos jp, nI_clamp (n := 24 * t + r) (by omega), h86, h87, hrow, nI_add]
    rfl
  obtain ⟨I', f1, O1, k1⟩ := lc_x (d := d) (L := L) (pa := pa) (pb := pb) (pu := pu) (pw := pw) (r := r) (Y := y + r) hw hh hp hs hyr e3 O row (q 8) (q 9)
  have e5' : I' 83 5 = nI g := by rw [f1 83 (by decide), e5]
  have e3' : I' 83 3 = nI w := by rw [f1 83 (by decide), e3]
  obtain ⟨near, N, k2⟩ := lc_g (d := d) (L := L) (pa := pa) (pb := pb) (pu := pu) (pw := pw) (p := p) (s := s) (r := r) (Y := y + r) hg e5' row
  obtain ⟨L', z9, f2, B2, k3⟩ := lc_v (d := d) (pa := pa) (pb := pb) (pu := pu) (pw := pw) (p := p) (r := r) (Y := y + r) hg hs (by omega) e5' B row near
  refine ⟨I', L', fun i => if i = 4 then some (.long row) else if i = 5 then none else if i = 6 then some (.int (nI (y + r))) else if i = 7 then some (.long near) else if i = 8 then none else some (.int z9), f1, f2, B2.iff (fun s' hs' X hX Y hY => ?_), O1.iff (fun s' X Y => ?_), ?_⟩
  · rw [N X hX]
    constructor
    · rintro (z | ⟨z1, z2, a, z3, z4, z5⟩)
      · exact Or.inl z
      · obtain ⟨i, j, b1, b2, b3⟩ := (hb a).mp z3
        exact Or.inr ⟨z1, i, j, b1, b2, by omega, by omega⟩
    · rintro (z | ⟨z1, i, j, b1, b2, b3, b4⟩)
      · exact Or.inl z
      · exact Or.inr ⟨z1, by omega, x + tnX W H t i j, (hb _).mpr ⟨i, j, b1, b2, rfl⟩, by omega, by omega⟩
  · constructor
    · rintro (z | ⟨z1, z2, z3, z4⟩)
      · exact Or.inl z
      · obtain ⟨i, j, b1, b2, b3⟩ := (hb X).mp z3
        exact Or.inr ⟨z1, i, j, b1, b2, b3, by omega⟩
    · rintro (z | ⟨z1, i, j, b1, b2, b3, b4⟩)
      · exact Or.inl z
      · have := (hf i j b1).1
        exact Or.inr ⟨z1, by omega, (hb X).mpr ⟨i, j, b1, b2, b3⟩, by omega⟩
  · rw [st, k1, B119_65, e3', if_neg (nI_nlt (Nat.le_refl _) (by omega))]
    refine k2.trans ?_
    have em : (if (0 : Int32) < nI (y + r) - nI g then nI (y + r) - nI g else 0) = nI (y + r - g) := by
      by_cases u : g < y + r
      · rw [nI_sub (by omega), if_pos (show (0 : Int32) < nI (y + r - g) from nI_lt (a := 0) (by omega) (by omega))]
      · rw [if_neg (fun z => by have := (zI_gt (a := y + r) (g := g) (c := 0) (by omega) (by omega) (by decide)).mp z; omega), show y + r - g = 0 by omega]
        rfl
    rw [B119_118, e5', if_pos (nI_lt (by omega) (by omega)), em]
    exact k3
theorem lay_c {I : Nat → Nat → Int32} {L : Nat → Nat → Int64} (G : plIn pl W H) (S : shpC pl W H I L) {p s x y t g : Nat} (hw : w ≤ 64) (hh : h ≤ 48) (hp : p < 32) (hs : s < 6) (ht : t < 4) (hg : g < 4) (hf : fitP w h nr pl W H s x y t) (h85 : I 85 p = nI s) (h86 : I 86 p = nI x) (h87 : I 87 p = nI y) (h88 : I 88 p = nI t) (e3 : I 83 3 = nI w) (e5 : I 83 5 = nI g) (B : barC nr L) (O : ownC w h o I) : ∃ I' L', (∀ c, c ≠ 90 → I' c = I c) ∧ (∀ c, c ≠ 89 → L' c = L c) ∧ barC (nearS nr pl W H s x y t g) L' ∧ ownC w h (layF o (cellS pl W H s x y t) p) I' ∧ jv d 119 0 [some (.ref 83), some (.int (nI p)), none, none, none, none, none, none, none, none] [] (shC, I, L, pX pa pb pu pw) = some (none, (shC, I', L', pX pa pb pu pw)) := by
  have jp : j_in (nI p) 32 = true := j_in_nI hp (by decide)
  have h24 := (wd_le (t := t) G).2
  obtain ⟨⟨i1, j1, u1, u2⟩, ⟨i2, j2, u3, u4⟩⟩ := tn_mx G ht
  have hx := (hf i1 j1 u1).1
  have hy := (hf i2 j2 u3).2.1
  obtain ⟨⟨I', L', q⟩, ⟨f1, f2, B1, O1⟩, k1⟩ := j_runP (fun r (m : (Nat → Nat → Int32) × (Nat → Nat → Int64) × (Nat → Option Value)) => jv d 119 12 [some (.ref 83), some (.int (nI p)), some (.int (nI (48 * s))), some (.int (nI r)), m.2.2 4, m.2.2 5, m.2.2 6, m.2.2 7, m.2.2 8, m.2.2 9] [] (shC, m.1, m.2.1, pX pa pb pu pw)) (fun r m => (∀ c, c ≠ 90 → m.1 c = I c) ∧ (∀ c, c ≠ 89 → m.2.1 c = L c) ∧ barC (fun s' X Y => nr s' X Y ∨ (s' = s ∧ ∃ i j, pl i j ∧ tnY W H t i j < r ∧ (x + tnX W H t i j ≤ X + g ∧ X ≤ x + tnX W H t i j + g) ∧ (y + tnY W H t i j ≤ Y + g ∧ Y ≤ y + tnY W H t i j + g))) m.2.1 ∧ ownC w h (layF o (fun s' X Y => s' = s ∧ ∃ i j, pl i j ∧ tnY W H t i j < r ∧ X = x + tnX W H t i j ∧ Y = y + tnY W H t i j) p) m.1) (tlN W H t) (fun r hr m hm => by
    obtain ⟨m1, m2, m3, m4⟩ := hm
    have S' : shpC pl W H m.1 m.2.1 := by
      unfold shpC
      rw [m1 92 (by decide), m1 93 (by decide), m2 91 (by decide)]
      exact S
    obtain ⟨I2, L2, q2, b1, b2, b3, b4, b5⟩ := lc_row (d := d) (pa := pa) (pb := pb) (pu := pu) (pw := pw) G S' (r := r) hw hh hp hs ht hg hr (show x < w by omega) (show y + r < h by omega) hf (by rw [m1 86 (by decide), h86]) (by rw [m1 87 (by decide), h87]) (by rw [m1 88 (by decide), h88]) (by rw [m1 83 (by decide), e3]) (by rw [m1 83 (by decide), e5]) m3 m4 m.2.2
    refine ⟨(I2, L2, q2), ⟨fun c a => (b1 c a).trans (m1 c a), fun c a => (b2 c a).trans (m2 c a), b3.iff (fun s' hs' X hX Y hY => ?_), b4.iff (fun s' X Y => ?_)⟩, b5⟩
    · constructor
      · rintro ((z | ⟨z1, i, j, z2, z3, z4⟩) | ⟨z1, i, j, z2, z3, z4⟩)
        · exact Or.inl z
        · exact Or.inr ⟨z1, i, j, z2, by omega, z4⟩
        · exact Or.inr ⟨z1, i, j, z2, by omega, z4⟩
      · rintro (z | ⟨z1, i, j, z2, z3, z4⟩)
        · exact Or.inl (Or.inl z)
        · by_cases e : tnY W H t i j = r
          · exact Or.inr ⟨z1, i, j, z2, e, z4⟩
          · exact Or.inl (Or.inr ⟨z1, i, j, z2, by omega, z4⟩)
    · constructor
      · rintro (⟨z1, i, j, z2, z3, z4⟩ | ⟨z1, i, j, z2, z3, z4⟩)
        · exact ⟨z1, i, j, z2, by omega, z4⟩
        · exact ⟨z1, i, j, z2, by omega, z4⟩
      · rintro ⟨z1, i, j, z2, z3, z4⟩
        by_cases e : tnY W H t i j = r
        · exact Or.inr ⟨z1, i, j, z2, e, z4⟩
        · exact Or.inl ⟨z1, i, j, z2, by omega, z4⟩) (I, L, fun _ => none) ⟨fun _ _ => rfl, fun _ _ => rfl, B.iff (fun s' hs' X hX Y hY => ⟨Or.inl, fun z => by
      rcases z with z | ⟨-, i, j, -, z, -⟩
      · exact z
      · exact absurd z (Nat.not_lt_zero _)⟩), fun s' hs' X Y hX hY => by
      rw [layF_n (fun z => by obtain ⟨-, i, j, -, z, -⟩ := z; exact absurd z (Nat.not_lt_zero _))]
      exact O s' hs' X Y hX hY⟩
  dsimp only at f1 f2 B1 O1 k1
  refine ⟨I', L', f1, f2, B1.iff (fun s' hs' X hX Y hY => ?_), O1.iff (fun s' X Y => ?_), ?_⟩
  · unfold nearS
    constructor
    · rintro (z | ⟨z1, i, j, z2, z3, z4⟩)
      · exact Or.inl z
      · exact Or.inr ⟨z1, i, j, z2, z4⟩
    · rintro (z | ⟨z1, i, j, z2, z4⟩)
      · exact Or.inl z
      · exact Or.inr ⟨z1, i, j, z2, (tn_lt G ht z2).2, z4⟩
  · unfold cellS
    constructor
    · rintro ⟨z1, i, j, z2, z3, z4⟩
      exact ⟨z1, i, j, z2, z4⟩
    · rintro ⟨z1, i, j, z2, z4⟩
      exact ⟨z1, i, j, z2, (tn_lt G ht z2).2, z4⟩
  · rw [B119_0, if_pos jp, nI_clamp (n := p) (by omega), h85, show nI s * 48 = nI (48 * s) by rw [show nI s * 48 = nI (s * 48) from nI_mul s 48, Nat.mul_comm]]
    refine k1.trans ?_
    rw [B119_12, if_pos jp, nI_clamp (n := p) (by omega), f1 88 (by decide), h88, if_pos (j_in_nI ht (by decide)), nI_clamp (n := t) (by omega), f1 93 (by decide), (S t ht).2.1, if_neg (nI_nlt (Nat.le_refl _) (by omega))]
end NESTA
