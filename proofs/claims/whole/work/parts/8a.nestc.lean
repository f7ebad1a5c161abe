/-! PLATES: the place of a piece, in the class -/
section NESTC
variable {d e : Nat} {I : Nat → Nat → Int32} {L : Nat → Nat → Int64} {pa pb pu pw : Option Nat} {w h W H : Nat} {nr : Nat → Nat → Nat → Prop} {pl : Nat → Nat → Prop} {o : Nat → Nat → Nat → Nat}
/-- the place that comes first -/
def firstP (w h : Nat) (nr : Nat → Nat → Nat → Prop) (pl : Nat → Nat → Prop) (W H T s y x t : Nat) : Prop := s < 6 ∧ y < h ∧ x < w ∧ t < T ∧ fitP w h nr pl W H s x y t ∧ ∀ s'' y'' x'' t'', s'' < 6 → y'' < h → x'' < w → t'' < T → fitP w h nr pl W H s'' x'' y'' t'' → kyN s y x t ≤ kyN s'' y'' x'' t''
def noneP (w h : Nat) (nr : Nat → Nat → Nat → Prop) (pl : Nat → Nat → Prop) (W H T R : Nat) : Prop := ∀ s y x t, s < 6 → y < h → x < w → t < T → 48 * s + y < R → ¬ fitP w h nr pl W H s x y t
theorem piece_c (G : plIn pl W H) (S : shpC pl W H I L) (B : barC nr L) (O : ownC w h o I) (e3 : I 83 3 = nI w) (e4 : I 83 4 = nI h) {g : Nat} (e5 : I 83 5 = nI g) (hg : g < 4) (hw : w ≤ 64) (hh : h ≤ 48) {p T q i : Nat} (hp : p < 32) (hT : T ≤ 4) : ∀ n R, R + n = 288 → noneP w h nr pl W H T R → (∃ s y x t I' L', firstP w h nr pl W H T s y x t ∧ noneP w h nr pl W H T (48 * s + y) ∧ (∀ c, c ≠ 90 → c ≠ 83 → I' c = atI I p s x y t c) ∧ (∀ f, f ≠ 2 → I' 83 f = I 83 f) ∧ I' 83 2 = I 83 2 + 1 ∧ (∀ c, c ≠ 89 → L' c = L c) ∧ barC (nearS nr pl W H s x y t g) L' ∧ ownC w h (layF o (cellS pl W H s x y t) p) I' ∧ jv (d + 2) 116 80 [some (.ref 83), some (.ref 1), some (.int (nI q)), some (.int (nI T)), some (.int (nI R)), some (.int (nI i)), some (.int (nI p))] [] (shC, I, L, pX pa pb pu pw) = jv (d + 2) 116 127 [some (.ref 83), some (.ref 1), some (.int (nI q)), some (.int (nI T)), some (.int (nI (48 * s + y))), some (.int (nI i)), some (.int (nI p))] [] (shC, I', L', pX pa pb pu pw)) ∨ (noneP w h nr pl W H T 288 ∧ jv (d + 2) 116 80 [some (.ref 83), some (.ref 1), some (.int (nI q)), some (.int (nI T)), some (.int (nI R)), some (.int (nI i)), some (.int (nI p))] [] (shC, I, L, pX pa pb pu pw) = jv (d + 2) 116 127 [some (.ref 83), some (.ref 1), some (.int (nI q)), some (.int (nI T)), some (.int (nI 288)), some (.int (nI i)), some (.int (nI p))] [] (shC, I, L, pX pa pb pu pw)) := by
  intro n
  induction n with
  | zero =>
    intro R hR hN
    right
    rw [show R = 288 by omega] at hN ⊢
    refine ⟨hN, ?_⟩
    rw [B116_80, if_neg (by decide)]
  | succ n ih =>
    intro R hR hN
    have ed : nI R / 48 = nI (R / 48) := nI_div (b := 48) (by omega) (by decide)
    have em : nI R - nI (R / 48) * 48 = nI (R % 48) := by
      rw [show nI (R / 48) * 48 = nI (R / 48 * 48) from nI_mul _ 48, nI_sub (by omega)]
      congr 1
      omega
    rcases row_c (d := d) (pa := pa) (pb := pb) (pu := pu) (pw := pw) (s := R / 48) (y := R % 48) G S B O e3 e4 e5 hg hw hh hp (by omega) (by omega) hT with ⟨x, t, I1, L1, b1, b2, b3, b4, b5, b6, b7, b8, b9, b10⟩ | ⟨b1, b2⟩
    · left
      have f83 : I1 83 = I 83 := by rw [b6 83 (by decide), atI_o _ _ _ _ _ _ (by decide) (by decide) (by decide) (by decide)]
      refine ⟨R / 48, R % 48, x, t, j_up I1 83 2 (I1 83 2 + 1), L1, ⟨by omega, b1, b2, b3, b4, fun s'' y'' x'' t'' c1 c2 c3 c4 c5 => ?_⟩, ?_, fun c c1 c2 => by rw [j_up_cell _ c2, b6 c c1], fun f c1 => by rw [j_up_own, if_neg c1, f83], by rw [j_up_self, f83], b7, b8, ?_, ?_⟩
      · by_cases z : 48 * s'' + y'' < R
        · exact absurd c5 (hN s'' y'' x'' t'' c1 c2 c3 c4 z)
        · by_cases z2 : 48 * s'' + y'' = R
          · have z3 : s'' = R / 48 := by omega
            have z4 : y'' = R % 48 := by omega
            subst z3
            subst z4
            exact b5 x'' t'' c3 c4 c5
          · unfold kyN
            omega
      · rw [show 48 * (R / 48) + R % 48 = R by omega]
        exact hN
      · intro s' hs' X Y hX hY
        rw [j_up_cell _ (by decide)]
        exact b9 s' hs' X Y hX hY
      · rw [B116_80, if_pos (show nI R < 288 from nI_lt (b := 288) (by omega) (by decide)), if_neg (by decide), if_neg (by decide), ed, em, jgo_some (d := d + 1) rfl b10]
        dsimp only [Option.toList_some, List.cons_append, List.nil_append]
        rw [B116_105, if_neg (by decide), show 48 * (R / 48) + R % 48 = R by omega]
    · have st : jv (d + 2) 116 80 [some (.ref 83), some (.ref 1), some (.int (nI q)), some (.int (nI T)), some (.int (nI R)), some (.int (nI i)), some (.int (nI p))] [] (shC, I, L, pX pa pb pu pw) = jv (d + 2) 116 80 [some (.ref 83), some (.ref 1), some (.int (nI q)), some (.int (nI T)), some (.int (nI (R + 1))), some (.int (nI i)), some (.int (nI p))] [] (shC, I, L, pX pa pb pu pw) := by
        rw [B116_80, if_pos (show nI R < 288 from nI_lt (b := 288) (by omega) (by decide)), if_neg (by decide), if_neg (by decide), ed, em, jgo_some (d := d + 1) rfl b2]
        dsimp only [Option.toList_some, List.cons_append, List.nil_append]
        rw [B116_105, if_pos rfl, nI_1 R]
      rw [st]
      refine ih (R + 1) (by omega) (fun s y x t c1 c2 c3 c4 c5 => ?_)
      by_cases z : 48 * s + y < R
      · exact hN s y x t c1 c2 c3 c4 z
      · have z3 : s = R / 48 := by omega
        have z4 : y = R % 48 := by omega
        subst z3
        subst z4
        exact b1 x t c2 c3 c4
end NESTC
