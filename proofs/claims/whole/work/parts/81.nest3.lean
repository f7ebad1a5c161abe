/-! PLATES: the first place of a turn, in the reference -/
def kyN (s y x t : Nat) : Nat := ((s * 64 + y) * 64 + x) * 4 + t
theorem ky_long {s y x t : Nat} (hs : s < 6) (hy : y < 48) (hx : x < 64) (ht : t < 4) : ((((nI s).toInt64 * 64 + (nI y).toInt64) * 64 + (nI x).toInt64) * 4 + (nI t).toInt64) = lgN (kyN s y x t) := by
  rw [lgN_I s (by omega), lgN_I y (by omega), lgN_I x (by omega), lgN_I t (by omega), show (64 : Int64) = lgN 64 from rfl, show (4 : Int64) = lgN 4 from rfl, lgN_mul, lgN_add, lgN_mul, lgN_add, lgN_mul, lgN_add]
  rfl
section NEST3
variable {d e : Nat} {I J : Nat → Nat → Int32} {L L' : Nat → Nat → Int64} {pa pb pu pw : Option Nat} {w h W H : Nat} {nr : Nat → Nat → Nat → Prop} {pl : Nat → Nat → Prop}
theorem fp_x (G : plIn pl W H) {t : Nat} (C : celR pl W H t J) (B : barR nr J) (hr : rCst J) (e4 : J 6 4 = nI w) (e5 : J 6 5 = nI h) (hw : w ≤ 64) (hh : h ≤ 48) {s y : Nat} (hs : s < 6) (ht : t < 4) (hy : y < h) : ∀ n x, x + n = w → (∃ x', x ≤ x' ∧ x' < w ∧ fitP w h nr pl W H s x' y t ∧ (∀ x'', x ≤ x'' → x'' < x' → ¬ fitP w h nr pl W H s x'' y t) ∧ jv (e + 2) 336 29 [some (.ref 0), some (.int (nI t)), some (.int (nI s)), some (.int (nI y)), some (.int (nI x))] [] (shR, J, L', pR) = some (some (.long (lgN (kyN s y x' t))), (shR, J, L', pR))) ∨ ((∀ x', x ≤ x' → x' < w → ¬ fitP w h nr pl W H s x' y t) ∧ jv (e + 2) 336 29 [some (.ref 0), some (.int (nI t)), some (.int (nI s)), some (.int (nI y)), some (.int (nI x))] [] (shR, J, L', pR) = jv (e + 2) 336 10 [some (.ref 0), some (.int (nI t)), some (.int (nI s)), some (.int (nI (y + 1))), some (.int (nI w))] [] (shR, J, L', pR)) := by
  intro n
  induction n with
  | zero =>
    intro x hx
    right
    refine ⟨fun x' a b => by omega, ?_⟩
    rw [B336_29, g_at_0_4 hr]
    dsimp only [Option.toList_some, List.cons_append, List.nil_append]
    rw [B336_42, if_pos (j_in_nI (by decide) (by decide)), nI_clamp (n := 4) (by decide), e4, if_neg (nI_nlt (by omega) (by omega)), nI_1 y, show x = w by omega]
  | succ n ih =>
    intro x hx
    obtain ⟨l1, l2⟩ := lies_r (e := e) (L' := L') G C B hr e4 e5 hw hh hs ht (x := x) (by omega) hy
    by_cases f : fitP w h nr pl W H s x y t
    · left
      refine ⟨x, Nat.le_refl _, by omega, f, fun x'' a b => by omega, ?_⟩
      rw [B336_29, g_at_0_4 hr]
      dsimp only [Option.toList_some, List.cons_append, List.nil_append]
      rw [B336_42, if_pos (j_in_nI (by decide) (by decide)), nI_clamp (n := 4) (by decide), e4, if_pos (nI_lt (by omega) (by omega)), jgo_some (d := e + 1) rfl (l1 f)]
      dsimp only [Option.toList_some, List.cons_append, List.nil_append]
      rw [B336_54, if_neg (by decide), ky_long hs (by omega) (by omega) ht]
    · have st : jv (e + 2) 336 29 [some (.ref 0), some (.int (nI t)), some (.int (nI s)), some (.int (nI y)), some (.int (nI x))] [] (shR, J, L', pR) = jv (e + 2) 336 29 [some (.ref 0), some (.int (nI t)), some (.int (nI s)), some (.int (nI y)), some (.int (nI (x + 1)))] [] (shR, J, L', pR) := by
        rw [B336_29, g_at_0_4 hr]
        dsimp only [Option.toList_some, List.cons_append, List.nil_append]
        rw [B336_42, if_pos (j_in_nI (by decide) (by decide)), nI_clamp (n := 4) (by decide), e4, if_pos (nI_lt (by omega) (by omega)), jgo_some (d := e + 1) rfl (l2 f)]
        dsimp only [Option.toList_some, List.cons_append, List.nil_append]
        rw [B336_54, if_pos rfl, nI_1 x]
      rw [st]
      rcases ih (x + 1) (by omega) with ⟨x', a1, a2, a3, a4, a5⟩ | ⟨a1, a2⟩
      · left
        refine ⟨x', by omega, a2, a3, fun x'' b1 b2 => ?_, a5⟩
        by_cases q : x'' = x
        · rw [q]; exact f
        · exact a4 x'' (by omega) b2
      · right
        refine ⟨fun x' b1 b2 => ?_, a2⟩
        by_cases q : x' = x
        · rw [q]; exact f
        · exact a1 x' (by omega) b2
theorem fp_y (G : plIn pl W H) {t : Nat} (C : celR pl W H t J) (B : barR nr J) (hr : rCst J) (e4 : J 6 4 = nI w) (e5 : J 6 5 = nI h) (hw : w ≤ 64) (hh : h ≤ 48) {s : Nat} (hs : s < 6) (ht : t < 4) : ∀ n y, y + n = h → ∀ o4 : Option Value, (∃ y' x', y ≤ y' ∧ y' < h ∧ x' < w ∧ fitP w h nr pl W H s x' y' t ∧ (∀ y'' x'', y ≤ y'' → y'' < h → x'' < w → fitP w h nr pl W H s x'' y'' t → kyN s y' x' t ≤ kyN s y'' x'' t) ∧ jv (e + 2) 336 10 [some (.ref 0), some (.int (nI t)), some (.int (nI s)), some (.int (nI y)), o4] [] (shR, J, L', pR) = some (some (.long (lgN (kyN s y' x' t))), (shR, J, L', pR))) ∨ ((∀ y' x', y ≤ y' → y' < h → x' < w → ¬ fitP w h nr pl W H s x' y' t) ∧ ∃ o4' : Option Value, jv (e + 2) 336 10 [some (.ref 0), some (.int (nI t)), some (.int (nI s)), some (.int (nI y)), o4] [] (shR, J, L', pR) = jv (e + 2) 336 2 [some (.ref 0), some (.int (nI t)), some (.int (nI (s + 1))), some (.int (nI h)), o4'] [] (shR, J, L', pR)) := by
  intro n
  induction n with
  | zero =>
    intro y hy o4
    right
    refine ⟨fun y' x' a b => by omega, o4, ?_⟩
    rw [B336_10, g_at_0_5 hr]
    dsimp only [Option.toList_some, List.cons_append, List.nil_append]
    rw [B336_22, if_pos (j_in_nI (by decide) (by decide)), nI_clamp (n := 5) (by decide), e5, if_neg (nI_nlt (by omega) (by omega)), nI_1 s, show y = h by omega]
  | succ n ih =>
    intro y hy o4
    have st : jv (e + 2) 336 10 [some (.ref 0), some (.int (nI t)), some (.int (nI s)), some (.int (nI y)), o4] [] (shR, J, L', pR) = jv (e + 2) 336 29 [some (.ref 0), some (.int (nI t)), some (.int (nI s)), some (.int (nI y)), some (.int (nI 0))] [] (shR, J, L', pR) := by
      rw [B336_10, g_at_0_5 hr]
      dsimp only [Option.toList_some, List.cons_append, List.nil_append]
      rw [B336_22, if_pos (j_in_nI (by decide) (by decide)), nI_clamp (n := 5) (by decide), e5, if_pos (nI_lt (by omega) (by omega))]
      rfl
    rw [st]
    rcases fp_x (e := e) (L' := L') G C B hr e4 e5 hw hh hs ht (y := y) (by omega) w 0 (by omega) with ⟨x', a1, a2, a3, a4, a5⟩ | ⟨a1, a2⟩
    · left
      refine ⟨y, x', Nat.le_refl _, by omega, a2, a3, fun y'' x'' b1 b2 b3 b4 => ?_, a5⟩
      unfold kyN
      by_cases q : y'' = y
      · subst q
        have : ¬ x'' < x' := fun r => a4 x'' (Nat.zero_le _) r b4
        omega
      · omega
    · rw [a2]
      rcases ih (y + 1) (by omega) (some (.int (nI w))) with ⟨y', x', c1, c2, c3, c4, c5, c6⟩ | ⟨c1, c2⟩
      · left
        refine ⟨y', x', by omega, c2, c3, c4, fun y'' x'' b1 b2 b3 b4 => ?_, c6⟩
        by_cases q : y'' = y
        · subst q
          exact absurd b4 (a1 x'' (Nat.zero_le _) b3)
        · exact c5 y'' x'' (by omega) b2 b3 b4
      · right
        refine ⟨fun y' x' b1 b2 b3 => ?_, c2⟩
        by_cases q : y' = y
        · subst q
          exact a1 x' (Nat.zero_le _) b3
        · exact c1 y' x' (by omega) b2 b3
theorem fp_s (G : plIn pl W H) {t : Nat} (C : celR pl W H t J) (B : barR nr J) (hr : rCst J) (e4 : J 6 4 = nI w) (e5 : J 6 5 = nI h) (hw : w ≤ 64) (hh : h ≤ 48) (ht : t < 4) : ∀ n s, s + n = 6 → ∀ o3 o4 : Option Value, (∃ s' y' x', s ≤ s' ∧ s' < 6 ∧ y' < h ∧ x' < w ∧ fitP w h nr pl W H s' x' y' t ∧ (∀ s'' y'' x'', s ≤ s'' → s'' < 6 → y'' < h → x'' < w → fitP w h nr pl W H s'' x'' y'' t → kyN s' y' x' t ≤ kyN s'' y'' x'' t) ∧ jv (e + 2) 336 2 [some (.ref 0), some (.int (nI t)), some (.int (nI s)), o3, o4] [] (shR, J, L', pR) = some (some (.long (lgN (kyN s' y' x' t))), (shR, J, L', pR))) ∨ ((∀ s' y' x', s ≤ s' → s' < 6 → y' < h → x' < w → ¬ fitP w h nr pl W H s' x' y' t) ∧ jv (e + 2) 336 2 [some (.ref 0), some (.int (nI t)), some (.int (nI s)), o3, o4] [] (shR, J, L', pR) = some (some (.long (lgN 9223372036854775807)), (shR, J, L', pR))) := by
  intro n
  induction n with
  | zero =>
    intro s hs o3 o4
    right
    refine ⟨fun s' y' x' a b => by omega, ?_⟩
    rw [B336_2, show s = 6 by omega, if_neg (by decide)]
    rfl
  | succ n ih =>
    intro s hs o3 o4
    rw [B336_2, if_pos (show nI s < 6 from nI_lt (b := 6) (by omega) (by decide))]
    rcases fp_y (e := e) (L' := L') G C B hr e4 e5 hw hh (s := s) (by omega) ht h 0 (by omega) o4 with ⟨y', x', a1, a2, a3, a4, a5, a6⟩ | ⟨a1, o4', a2⟩
    · left
      refine ⟨s, y', x', Nat.le_refl _, by omega, a2, a3, a4, fun s'' y'' x'' b1 b2 b3 b4 b5 => ?_, a6⟩
      by_cases q : s'' = s
      · subst q
        exact a5 y'' x'' (Nat.zero_le _) b3 b4 b5
      · unfold kyN
        omega
    · refine Or.imp ?_ ?_ (ih (s + 1) (by omega) (some (.int (nI h))) o4')
      · rintro ⟨s', y', x', c1, c2, c3, c4, c5, c6, c7⟩
        refine ⟨s', y', x', by omega, c2, c3, c4, c5, fun s'' y'' x'' b1 b2 b3 b4 b5 => ?_, a2.trans c7⟩
        by_cases q : s'' = s
        · subst q
          exact absurd b5 (a1 y'' x'' (Nat.zero_le _) b3 b4)
        · exact c6 s'' y'' x'' (by omega) b2 b3 b4 b5
      · rintro ⟨c1, c2⟩
        refine ⟨fun s' y' x' b1 b2 b3 b4 => ?_, a2.trans c2⟩
        by_cases q : s' = s
        · subst q
          exact a1 y' x' (Nat.zero_le _) b3 b4
        · exact c1 s' y' x' (by omega) b2 b3 b4
end NEST3
