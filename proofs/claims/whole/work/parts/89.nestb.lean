/-! PLATES: the first place in a row, and of a piece, in the class -/
section NESTB
variable {d e : Nat} {I : Nat → Nat → Int32} {L : Nat → Nat → Int64} {pa pb pu pw : Option Nat} {w h W H : Nat} {nr : Nat → Nat → Nat → Prop} {pl : Nat → Nat → Prop}
theorem row_t (G : plIn pl W H) (S : shpC pl W H I L) (B : barC nr L) (e3 : I 83 3 = nI w) (e4 : I 83 4 = nI h) (hw : w ≤ 64) (hh : h ≤ 48) {s x y p T : Nat} (hs : s < 6) (hT : T ≤ 4) (hx : x < w) (hy : y < h) : ∀ n t, t + n = T → (∃ t', t ≤ t' ∧ t' < T ∧ (fitP w h nr pl W H s x y t') ∧ (∀ t'', t ≤ t'' → t'' < t' → ¬ (fitP w h nr pl W H s x y t'')) ∧ jv (d + 1) 117 23 [some (.ref 83), some (.int (nI p)), some (.int (nI s)), some (.int (nI y)), some (.int (nI T)), some (.int (nI x)), some (.int (nI t))] [] (shC, I, L, pX pa pb pu pw) = jv (d + 1) 117 40 [some (.ref 83), some (.int (nI p)), some (.int (nI s)), some (.int (nI y)), some (.int (nI T)), some (.int (nI x)), some (.int (nI t'))] [.int 1] (shC, I, L, pX pa pb pu pw)) ∨ ((∀ t', t ≤ t' → t' < T → ¬ (fitP w h nr pl W H s x y t')) ∧ jv (d + 1) 117 23 [some (.ref 83), some (.int (nI p)), some (.int (nI s)), some (.int (nI y)), some (.int (nI T)), some (.int (nI x)), some (.int (nI t))] [] (shC, I, L, pX pa pb pu pw) = jv (d + 1) 117 3 [some (.ref 83), some (.int (nI p)), some (.int (nI s)), some (.int (nI y)), some (.int (nI T)), some (.int (nI (x + 1))), some (.int (nI T))] [] (shC, I, L, pX pa pb pu pw)) := by
  intro n
  induction n with
  | zero =>
    intro t ht
    right
    refine ⟨fun t' a b => by omega, ?_⟩
    rw [B117_23, if_neg (nI_nlt (by omega) (by omega)), nI_1 x, show t = T by omega]
  | succ n ih =>
    intro t ht
    obtain ⟨l1, l2⟩ := fits_c (d := d) (pa := pa) (pb := pb) (pu := pu) (pw := pw) G S B e3 e4 hw hh hs (t := t) (by omega) hx hy
    by_cases f : (fitP w h nr pl W H s x y t)
    · left
      refine ⟨t, Nat.le_refl _, by omega, f, fun t'' a b => by omega, ?_⟩
      rw [B117_23, if_pos (nI_lt (by omega) (by omega)), jgo_some (d := d) rfl (l1 f)]
      dsimp only [Option.toList_some, List.cons_append, List.nil_append]
    · have st : jv (d + 1) 117 23 [some (.ref 83), some (.int (nI p)), some (.int (nI s)), some (.int (nI y)), some (.int (nI T)), some (.int (nI x)), some (.int (nI t))] [] (shC, I, L, pX pa pb pu pw) = jv (d + 1) 117 23 [some (.ref 83), some (.int (nI p)), some (.int (nI s)), some (.int (nI y)), some (.int (nI T)), some (.int (nI x)), some (.int (nI (t + 1)))] [] (shC, I, L, pX pa pb pu pw) := by
        rw [B117_23, if_pos (nI_lt (by omega) (by omega)), jgo_some (d := d) rfl (l2 f)]
        dsimp only [Option.toList_some, List.cons_append, List.nil_append]
        rw [B117_40, if_pos rfl, nI_1 t]
      rw [st]
      rcases ih (t + 1) (by omega) with ⟨t', a1, a2, a3, a4, a5⟩ | ⟨a1, a2⟩
      · left
        refine ⟨t', by omega, a2, a3, fun t'' b1 b2 => ?_, a5⟩
        by_cases q : t'' = t
        · rw [q]; exact f
        · exact a4 t'' (by omega) b2
      · right
        refine ⟨fun t' b1 b2 => ?_, a2⟩
        by_cases q : t' = t
        · rw [q]; exact f
        · exact a1 t' (by omega) b2
theorem row_x (G : plIn pl W H) (S : shpC pl W H I L) (B : barC nr L) (e3 : I 83 3 = nI w) (e4 : I 83 4 = nI h) (hw : w ≤ 64) (hh : h ≤ 48) {s y p T : Nat} (hs : s < 6) (hT : T ≤ 4) (hy : y < h) : ∀ n x, x + n = w → ∀ o6 : Option Value, (∃ x' t', x ≤ x' ∧ x' < w ∧ t' < T ∧ (fitP w h nr pl W H s x' y t') ∧ (∀ x'' t'', x ≤ x'' → x'' < w → t'' < T → (fitP w h nr pl W H s x'' y t'') → kyN s y x' t' ≤ kyN s y x'' t'') ∧ jv (d + 1) 117 3 [some (.ref 83), some (.int (nI p)), some (.int (nI s)), some (.int (nI y)), some (.int (nI T)), some (.int (nI x)), o6] [] (shC, I, L, pX pa pb pu pw) = jv (d + 1) 117 40 [some (.ref 83), some (.int (nI p)), some (.int (nI s)), some (.int (nI y)), some (.int (nI T)), some (.int (nI x')), some (.int (nI t'))] [.int 1] (shC, I, L, pX pa pb pu pw)) ∨ ((∀ x' t', x ≤ x' → x' < w → t' < T → ¬ (fitP w h nr pl W H s x' y t')) ∧ jv (d + 1) 117 3 [some (.ref 83), some (.int (nI p)), some (.int (nI s)), some (.int (nI y)), some (.int (nI T)), some (.int (nI x)), o6] [] (shC, I, L, pX pa pb pu pw) = some (some (.int 0), (shC, I, L, pX pa pb pu pw))) := by
  intro n
  induction n with
  | zero =>
    intro x hx o6
    right
    refine ⟨fun x' t' a b => by omega, ?_⟩
    rw [B117_3, e3, if_neg (nI_nlt (by omega) (by omega)), B117_92, if_pos (by decide)]
  | succ n ih =>
    intro x hx o6
    have st : jv (d + 1) 117 3 [some (.ref 83), some (.int (nI p)), some (.int (nI s)), some (.int (nI y)), some (.int (nI T)), some (.int (nI x)), o6] [] (shC, I, L, pX pa pb pu pw) = jv (d + 1) 117 23 [some (.ref 83), some (.int (nI p)), some (.int (nI s)), some (.int (nI y)), some (.int (nI T)), some (.int (nI x)), some (.int (nI 0))] [] (shC, I, L, pX pa pb pu pw) := by
      rw [B117_3, e3, if_pos (nI_lt (by omega) (by omega)), e4, if_pos (nI_lt hy (by omega))]
      rfl
    rw [st]
    rcases row_t (d := d) (pa := pa) (pb := pb) (pu := pu) (pw := pw) (p := p) G S B e3 e4 hw hh hs hT (show x < w by omega) hy T 0 (by omega) with ⟨t', a1, a2, a3, a4, a5⟩ | ⟨a1, a2⟩
    · left
      refine ⟨x, t', Nat.le_refl _, by omega, a2, a3, fun x'' t'' b1 b2 b3 b4 => ?_, a5⟩
      unfold kyN
      by_cases q : x'' = x
      · subst q
        have : ¬ t'' < t' := fun z => a4 t'' (Nat.zero_le _) z b4
        omega
      · omega
    · rw [a2]
      rcases ih (x + 1) (by omega) (some (.int (nI T))) with ⟨x', t', c1, c2, c3, c4, c5, c6⟩ | ⟨c1, c2⟩
      · left
        refine ⟨x', t', by omega, c2, c3, c4, fun x'' t'' b1 b2 b3 b4 => ?_, c6⟩
        by_cases q : x'' = x
        · subst q
          exact absurd b4 (a1 t'' (Nat.zero_le _) b3)
        · exact c5 x'' t'' (by omega) b2 b3 b4
      · right
        refine ⟨fun x' t' b1 b2 b3 => ?_, c2⟩
        by_cases q : x' = x
        · subst q
          exact a1 t' (Nat.zero_le _) b3
        · exact c1 x' t' (by omega) b2 b3
/-- the class's store with piece p at its place -/
def atI (I : Nat → Nat → Int32) (p s x y t : Nat) : Nat → Nat → Int32 := j_up (j_up (j_up (j_up I 85 p (nI s)) 86 p (nI x)) 87 p (nI y)) 88 p (nI t)
theorem atI_o (I : Nat → Nat → Int32) (p s x y t : Nat) {c : Nat} (h1 : c ≠ 85) (h2 : c ≠ 86) (h3 : c ≠ 87) (h4 : c ≠ 88) : atI I p s x y t c = I c := by
  unfold atI
  rw [j_up_cell _ h4, j_up_cell _ h3, j_up_cell _ h2, j_up_cell _ h1]
theorem row_c {o : Nat → Nat → Nat → Nat} (G : plIn pl W H) (S : shpC pl W H I L) (B : barC nr L) (O : ownC w h o I) (e3 : I 83 3 = nI w) (e4 : I 83 4 = nI h) {g : Nat} (e5 : I 83 5 = nI g) (hg : g < 4) (hw : w ≤ 64) (hh : h ≤ 48) {s y p T : Nat} (hp : p < 32) (hs : s < 6) (hy : y < 48) (hT : T ≤ 4) : (∃ x t I' L', y < h ∧ x < w ∧ t < T ∧ fitP w h nr pl W H s x y t ∧ (∀ x'' t'', x'' < w → t'' < T → fitP w h nr pl W H s x'' y t'' → kyN s y x t ≤ kyN s y x'' t'') ∧ (∀ c, c ≠ 90 → I' c = atI I p s x y t c) ∧ (∀ c, c ≠ 89 → L' c = L c) ∧ barC (nearS nr pl W H s x y t g) L' ∧ ownC w h (layF o (cellS pl W H s x y t) p) I' ∧ jv (d + 1) 117 0 [some (.ref 83), some (.int (nI p)), some (.int (nI s)), some (.int (nI y)), some (.int (nI T)), none, none] [] (shC, I, L, pX pa pb pu pw) = some (some (.int 1), (shC, I', L', pX pa pb pu pw))) ∨ ((∀ x t, y < h → x < w → t < T → ¬ fitP w h nr pl W H s x y t) ∧ jv (d + 1) 117 0 [some (.ref 83), some (.int (nI p)), some (.int (nI s)), some (.int (nI y)), some (.int (nI T)), none, none] [] (shC, I, L, pX pa pb pu pw) = some (some (.int 0), (shC, I, L, pX pa pb pu pw))) := by
  have jp : j_in (nI p) 32 = true := j_in_nI hp (by decide)
  by_cases hyh : y < h
  · have st : jv (d + 1) 117 0 [some (.ref 83), some (.int (nI p)), some (.int (nI s)), some (.int (nI y)), some (.int (nI T)), none, none] [] (shC, I, L, pX pa pb pu pw) = jv (d + 1) 117 3 [some (.ref 83), some (.int (nI p)), some (.int (nI s)), some (.int (nI y)), some (.int (nI T)), some (.int (nI 0)), none] [] (shC, I, L, pX pa pb pu pw) := by
      rw [B117_0]
      rfl
    rcases row_x (d := d) (pa := pa) (pb := pb) (pu := pu) (pw := pw) (p := p) G S B e3 e4 hw hh hs hT hyh w 0 (by omega) none with ⟨x, t, a1, a2, a3, a4, a5, a6⟩ | ⟨a1, a2⟩
    · left
      have at85 : ∀ c, c ≠ 85 → c ≠ 86 → c ≠ 87 → c ≠ 88 → atI I p s x y t c = I c := fun c => atI_o I p s x y t
      have S' : shpC pl W H (atI I p s x y t) L := by
        unfold shpC
        rw [at85 92 (by decide) (by decide) (by decide) (by decide), at85 93 (by decide) (by decide) (by decide) (by decide)]
        exact S
      have O' : ownC w h o (atI I p s x y t) := by
        unfold ownC
        rw [at85 90 (by decide) (by decide) (by decide) (by decide)]
        exact O
      have r88 : atI I p s x y t 88 p = nI t := by unfold atI; rw [j_up_self]
      have r87 : atI I p s x y t 87 p = nI y := by unfold atI; rw [j_up_cell _ (by decide), j_up_self]
      have r86 : atI I p s x y t 86 p = nI x := by unfold atI; rw [j_up_cell _ (by decide), j_up_cell _ (by decide), j_up_self]
      have r85 : atI I p s x y t 85 p = nI s := by unfold atI; rw [j_up_cell _ (by decide), j_up_cell _ (by decide), j_up_cell _ (by decide), j_up_self]
      obtain ⟨I', L', b1, b2, b3, b4, b5⟩ := lay_c (d := d) (pa := pa) (pb := pb) (pu := pu) (pw := pw) G S' hw hh hp hs (show t < 4 by omega) hg a4 r85 r86 r87 r88 (by rw [at85 83 (by decide) (by decide) (by decide) (by decide), e3]) (by rw [at85 83 (by decide) (by decide) (by decide) (by decide), e5]) B O'
      refine ⟨x, t, I', L', hyh, a2, a3, a4, fun x'' t'' c1 c2 c3 => a5 x'' t'' (Nat.zero_le _) c1 c2 c3, b1, b2, b3, b4, ?_⟩
      rw [st, a6, B117_40, if_neg (by decide), if_pos jp, if_pos jp, if_pos jp, if_pos jp, nI_clamp (n := p) (by omega)]
      refine (jgo_some (d := d) rfl b5).trans ?_
      dsimp only [Option.toList_none, List.nil_append]
      rw [B117_78, if_pos (by decide)]
    · right
      exact ⟨fun x t _ c1 c2 => a1 x t (Nat.zero_le _) c1 c2, st.trans a2⟩
  · right
    refine ⟨fun x t c => absurd c hyh, ?_⟩
    rw [B117_0, B117_3]
    by_cases q : (0 : Int32) < I 83 3
    · rw [if_pos q, e4, if_neg (nI_nlt (by omega) (by omega)), B117_92, if_pos (by decide)]
    · rw [if_neg q, B117_92, if_pos (by decide)]
end NESTB
