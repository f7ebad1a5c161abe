/-! PLATES: all pieces of one plate in both -/
def frQ (J J' : Nat → Nat → Int32) : Prop := (∀ c, c ≠ 0 → c ≠ 49 → c ≠ 50 → c ≠ 51 → c ≠ 52 → c ≠ 53 → c ≠ 54 → c ≠ 55 → c ≠ 56 → J' c = J c) ∧ ∀ f, f ≠ 99 → f ≠ 89 → J' 0 f = J 0 f
theorem frK.tr {I I' I'' : Nat → Nat → Int32} (a : frK I I') (b : frK I' I'') : frK I I'' := ⟨fun c x1 x2 x3 x4 x5 x6 x7 => (b.1 c x1 x2 x3 x4 x5 x6 x7).trans (a.1 c x1 x2 x3 x4 x5 x6 x7), fun f x1 x2 => (b.2 f x1 x2).trans (a.2 f x1 x2)⟩
section NESTK
variable {d e : Nat} {pa pb pu pw : Option Nat} {w h W H : Nat} {v : Nat → Int32} {nr : Nat → Nat → Nat → Prop} {o : Nat → Nat → Nat → Nat}
def cpSt : Type := (Nat × Nat) × ((Nat → Nat → Int32) × (Nat → Nat → Int32) × (Nat → Nat → Int64)) × (Nat → Nat → Nat → Prop) × (Nat → Nat → Nat → Nat) × Option Value
theorem plate_sim {I J : Nat → Nat → Int32} {L L' : Nat → Nat → Int64} (G : plIn (plV v) W H) (hr : rCst J) {q p N g m cn : Nat} (hq : q < 8) (hp : p + cn ≤ N) (hN : N ≤ 32) (hg : g < 4) (hcn : cn ≤ 4) (h88 : J 0 88 = nI N) (hJ : ∀ i, i < cn → J 48 (p + i) = nI q) (hvJ : ∀ j, j < 12 → J 6 (600 + q * 14 + j) = v j) (h13 : I 2 (600 + q * 14 + 13) = J 6 (600 + q * 14 + 13)) (hc : I 2 (600 + q * 14 + 12) = nI cn) (f4 : J 6 4 = nI w) (f5 : J 6 5 = nI h) (hw : w ≤ 64) (hh : h ≤ 48) (e3 : I 83 3 = nI w) (e4 : I 83 4 = nI h) (e5 : I 83 5 = nI g) (S : shpC (plV v) W H I L) (hS : nsR w h p nr o m I J L) : ∃ I' L1 J' nr' o' m', nsR w h (p + cn) nr' o' m' I' J' L1 ∧ frK I I' ∧ (∀ c, c ≠ 89 → L1 c = L c) ∧ frQ J J' ∧ jv (d + 2) 116 0 [some (.ref 83), some (.ref 1), some (.int (nI q)), none, none, none, none] [] (shC, I, L, pX pa pb pu pw) = some (none, (shC, I', L1, pX pa pb pu pw)) ∧ jv (e + 4) 334 66 [some (.ref 0), some (.int (nI g)), some (.int (nI p))] [] (shR, J, L', pR) = jv (e + 4) 334 66 [some (.ref 0), some (.int (nI g)), some (.int (nI (p + cn)))] [] (shR, J', L', pR) := by
  generalize hT : (if J 6 (600 + q * 14 + 13) = 1 then 4 else 1) = T
  have st : jv (d + 2) 116 0 [some (.ref 83), some (.ref 1), some (.int (nI q)), none, none, none, none] [] (shC, I, L, pX pa pb pu pw) = jv (d + 2) 116 25 [some (.ref 83), some (.ref 1), some (.int (nI q)), some (.int (nI T)), some (.int (nI 0)), some (.int (nI 0)), none] [] (shC, I, L, pX pa pb pu pw) := by
    rw [B116_0, show (13 : Int32) = nI 13 from rfl, g_plt_c hq (by decide)]
    dsimp only [Option.toList_some, List.cons_append, List.nil_append]
    rw [h13, B116_9]
    by_cases z : J 6 (600 + q * 14 + 13) = 1
    · rw [if_pos z] at hT ⊢
      rw [B116_18, ← hT]
      rfl
    · rw [if_neg z] at hT ⊢
      rw [B116_18, ← hT]
      rfl
  obtain ⟨⟨⟨R', m'⟩, ⟨I', J', L1⟩, nr', o', z6⟩, ⟨b1, b2, b3, b4, b5, b6, b7⟩, k1, k2⟩ := j_run2 (α := cpSt) (fun i t => jv (d + 2) 116 25 [some (.ref 83), some (.ref 1), some (.int (nI q)), some (.int (nI T)), some (.int (nI t.1.1)), some (.int (nI i)), t.2.2.2.2] [] (shC, t.2.1.1, t.2.1.2.2, pX pa pb pu pw)) (fun i t => jv (e + 4) 334 66 [some (.ref 0), some (.int (nI g)), some (.int (nI (p + i)))] [] (shR, t.2.1.2.1, L', pR)) (fun i t => t.1.1 ≤ 288 ∧ shpC (plV v) W H t.2.1.1 t.2.1.2.2 ∧ nsR w h (p + i) t.2.2.1 t.2.2.2.1 t.1.2 t.2.1.1 t.2.1.2.1 t.2.1.2.2 ∧ noneP w h t.2.2.1 (plV v) W H T t.1.1 ∧ frK I t.2.1.1 ∧ (∀ c, c ≠ 89 → t.2.1.2.2 c = L c) ∧ frQ J t.2.1.2.1) cn (fun i hi t ht => by
    obtain ⟨⟨R1, m1⟩, ⟨I1, J1, L2⟩, nr1, o1, z1⟩ := t
    obtain ⟨c1, c2, c3, c4, c5, c6, c7⟩ := ht
    dsimp only at c1 c2 c3 c4 c5 c6 c7 ⊢
    have j6 : J1 6 = J 6 := c7.1 6 (by decide) (by decide) (by decide) (by decide) (by decide) (by decide) (by decide) (by decide) (by decide)
    have j48 : J1 48 = J 48 := c7.1 48 (by decide) (by decide) (by decide) (by decide) (by decide) (by decide) (by decide) (by decide) (by decide)
    have i2 : I1 2 = I 2 := c5.1 2 (by decide) (by decide) (by decide) (by decide) (by decide) (by decide) (by decide)
    obtain ⟨R2, I2, L3, J2, nr2, o2, m2, g1, g2, g3, g4, g5, g6, g7, ⟨z2, g8⟩, g9⟩ := copy_sim (d := d) (e := e) (pa := pa) (pb := pb) (pu := pu) (pw := pw) (L' := L') (N := N) (g := g) (i := i) (cn := cn) (T := T) G (rCst_eq1 hr (fun c hc h6 => c7.1 c hc (by omega) (by omega) (by omega) (by omega) (by omega) (by omega) (by omega) (by omega))) hq (show p + i < N by omega) hN hg hi hcn c1 (by rw [c7.2 88 (by decide) (by decide), h88]) (by rw [j48]; exact hJ i hi) (fun j hj => by rw [j6]; exact hvJ j hj) (by rw [j6]; exact hT.symm) (by rw [i2, hc]) (by rw [j6, f4]) (by rw [j6, f5]) hw hh (by rw [c5.2 3 (by decide) (by decide), e3]) (by rw [c5.2 4 (by decide) (by decide), e4]) (by rw [c5.2 5 (by decide) (by decide), e5]) c2 c3 c4 z1
    exact ⟨((R2, m2), (I2, J2, L3), nr2, o2, z2), ⟨g1, g2, g3, g4, c5.tr g5, fun c hc => (g6 c hc).trans (c6 c hc), ⟨fun c x0 x1 x2 x3 x4 x5 x6 x7 x8 => (g7.1 c x0 x1 x2 x3 x4 x5 x6 x7 x8).trans (c7.1 c x0 x1 x2 x3 x4 x5 x6 x7 x8), fun f x1 x2 => (g7.2.1 f x1 x2).trans (c7.2 f x1 x2)⟩⟩, g8, g9⟩) ((0, m), (I, J, L), nr, o, none) ⟨Nat.zero_le _, S, hS, fun s y x t _ _ _ _ z => absurd z (Nat.not_lt_zero _), ⟨fun _ _ _ _ _ _ _ _ => rfl, fun _ _ _ => rfl⟩, fun _ _ => rfl, ⟨fun _ _ _ _ _ _ _ _ _ _ => rfl, fun _ _ _ => rfl⟩⟩
  dsimp only at b1 b2 b3 b4 b5 b6 b7 k1 k2
  have i2 : I' 2 = I 2 := b5.1 2 (by decide) (by decide) (by decide) (by decide) (by decide) (by decide) (by decide)
  refine ⟨I', L1, J', nr', o', m', b3, b5, b6, b7, st.trans (k1.trans ?_), k2⟩
  rw [B116_25, show (12 : Int32) = nI 12 from rfl, g_plt_c hq (by decide)]
  dsimp only [Option.toList_some, List.cons_append, List.nil_append]
  rw [i2, hc, B116_36, if_neg (nI_nlt (Nat.le_refl _) (by omega)), B116_133]
end NESTK
