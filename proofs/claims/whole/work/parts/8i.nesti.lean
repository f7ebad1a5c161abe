/-! PLATES: one piece, in the reference -/
section NESTI
variable {d e : Nat} {L L' : Nat → Nat → Int64} {w h W H : Nat} {v : Nat → Int32} {nr : Nat → Nat → Nat → Prop} {o : Nat → Nat → Nat → Nat}
/-- what a piece's step leaves as it was -/
def frP (p : Nat) (J J' : Nat → Nat → Int32) : Prop := (∀ c, c ≠ 0 → c ≠ 49 → c ≠ 50 → c ≠ 51 → c ≠ 52 → c ≠ 53 → c ≠ 54 → c ≠ 55 → c ≠ 56 → J' c = J c) ∧ (∀ f, f ≠ 99 → f ≠ 89 → J' 0 f = J 0 f) ∧ ∀ c, 49 ≤ c → c ≤ 52 → ∀ k, k ≠ p → J' c k = J c k
theorem atJ_o (J : Nat → Nat → Int32) (p s x y t : Nat) {c : Nat} (h1 : c ≠ 49) (h2 : c ≠ 50) (h3 : c ≠ 51) (h4 : c ≠ 52) : atJ J p s x y t c = J c := by
  unfold atJ
  rw [j_up_cell _ h1, j_up_cell _ h3, j_up_cell _ h2, j_up_cell _ h4]
theorem atJ_49 (J : Nat → Nat → Int32) (p s x y t k : Nat) : atJ J p s x y t 49 k = if k = p then nI s else J 49 k := by
  unfold atJ
  rw [j_up_own, j_up_cell _ (by decide), j_up_cell _ (by decide), j_up_cell _ (by decide)]
theorem atJ_51 (J : Nat → Nat → Int32) (p s x y t k : Nat) : atJ J p s x y t 51 k = if k = p then nI y else J 51 k := by
  unfold atJ
  rw [j_up_cell _ (by decide), j_up_own, j_up_cell _ (by decide), j_up_cell _ (by decide)]
theorem atJ_50 (J : Nat → Nat → Int32) (p s x y t k : Nat) : atJ J p s x y t 50 k = if k = p then nI x else J 50 k := by
  unfold atJ
  rw [j_up_cell _ (by decide), j_up_cell _ (by decide), j_up_own, j_up_cell _ (by decide)]
theorem atJ_52 (J : Nat → Nat → Int32) (p s x y t k : Nat) : atJ J p s x y t 52 k = if k = p then nI t else J 52 k := by
  unfold atJ
  rw [j_up_cell _ (by decide), j_up_cell _ (by decide), j_up_cell _ (by decide), j_up_own]
theorem step_r {J : Nat → Nat → Int32} (G : plIn (plV v) W H) (hr : rCst J) {k p T N g m : Nat} (hk : k < 8) (hp : p < N) (hN : N ≤ 32) (hg : g < 4) (h88 : J 0 88 = nI N) (h89 : J 0 89 = nI m) (hJ : J 48 p = nI k) (hv : ∀ j, j < 12 → J 6 (600 + k * 14 + j) = v j) (B : barR nr J) (O : ownR o J) (e4 : J 6 4 = nI w) (e5 : J 6 5 = nI h) (hw : w ≤ 64) (hh : h ≤ 48) (hT : T = if J 6 (600 + k * 14 + 13) = 1 then 4 else 1) : ∃ J', frP p J J' ∧ jv (e + 4) 334 66 [some (.ref 0), some (.int (nI g)), some (.int (nI p))] [] (shR, J, L', pR) = jv (e + 4) 334 66 [some (.ref 0), some (.int (nI g)), some (.int (nI (p + 1)))] [] (shR, J', L', pR) ∧ ((noneP w h nr (plV v) W H T 288 ∧ J' 49 p = -1 ∧ J' 0 89 = nI m ∧ barR nr J' ∧ ownR o J') ∨ ∃ s y x t, firstP w h nr (plV v) W H T s y x t ∧ J' 49 p = nI s ∧ J' 50 p = nI x ∧ J' 51 p = nI y ∧ J' 52 p = nI t ∧ J' 0 89 = nI (m + 1) ∧ barR (nearS nr (plV v) W H s x y t g) J' ∧ ownR (layF o (cellS (plV v) W H s x y t) p) J') := by
  have jp : j_in (nI p) 32 = true := j_in_nI (by omega) (by decide)
  generalize hJ1 : j_up J 49 p (-1) = J1
  have f1 : ∀ c, c ≠ 49 → J1 c = J c := fun c hc => by rw [← hJ1, j_up_cell _ hc]
  have r1 : ∀ k', J1 49 k' = if k' = p then -1 else J 49 k' := fun k' => by rw [← hJ1, j_up_own]
  have hr1 : rCst J1 := rCst_eq hr (fun c hc => f1 c (by omega))
  have B1 : barR nr J1 := by
    unfold barR
    rw [f1 54 (by decide)]
    exact B
  have O1 : ownR o J1 := by
    unfold ownR
    rw [f1 53 (by decide)]
    exact O
  obtain ⟨J2, f2, hcase⟩ := find_r (e := e) (L' := L') G hr1 hk (show p < 32 by omega) (by rw [f1 48 (by decide), hJ]) (fun j hj => by rw [f1 6 (by decide), hv j hj]) B1 (by rw [f1 6 (by decide), e4]) (by rw [f1 6 (by decide), e5]) hw hh (T := T) (by rw [f1 6 (by decide), hT])
  have st : ∀ J3, jv (e + 3) 335 0 [some (.ref 0), some (.int (nI p)), none, none, none, none, none, none, none] [] (shR, J1, L', pR) = some (none, (shR, J3, L', pR)) → jv (e + 4) 334 66 [some (.ref 0), some (.int (nI g)), some (.int (nI p))] [] (shR, J, L', pR) = jv (e + 4) 334 86 [some (.ref 0), some (.int (nI g)), some (.int (nI p))] [] (shR, J3, L', pR) := fun J3 hz => by
    rw [B334_66, h88, if_pos (nI_lt hp (by omega)), if_pos jp, nI_clamp (n := p) (by omega), hJ1, jgo_some (d := e + 3) rfl hz]
    dsimp only [Option.toList_none, List.nil_append]
  have f12 : ∀ c, c ≠ 0 → c ≠ 49 → c ≠ 55 → c ≠ 56 → J2 c = J c := fun c a0 a1 a2 a3 => by rw [f2.1 c a0 a2 a3, f1 c a1]
  have c49 : ∀ k', J2 49 k' = if k' = p then -1 else J 49 k' := fun k' => by rw [f2.1 49 (by decide) (by decide) (by decide), r1]
  have c0 : ∀ f, f ≠ 99 → J2 0 f = J 0 f := fun f hf => by rw [f2.2 f hf, f1 0 (by decide)]
  rcases hcase with ⟨a1, a2⟩ | ⟨s, y, x, t, a1, a2, a3, a4, a5, a6, a7⟩
  · refine ⟨J2, ⟨fun c b0 b1 b2 b3 b4 b5 b6 b7 b8 => f12 c b0 b1 b7 b8, fun f b1 b2 => c0 f b1, fun c b1 b2 k' hk' => ?_⟩, ?_, Or.inl ⟨fun s y x t c1 c2 c3 c4 _ => a1 s y x t c1 c2 c3 c4, by rw [c49, if_pos rfl], by rw [c0 89 (by decide), h89], ?_, ?_⟩⟩
    · by_cases e49 : c = 49
      · subst e49
        rw [c49, if_neg hk']
      · rw [f12 c (by omega) e49 (by omega) (by omega)]
    · rw [st J2 a2, B334_86, if_pos jp, nI_clamp (n := p) (by omega), c49, if_pos rfl, if_pos (by decide), B334_111, nI_1 p]
    · unfold barR
      rw [f12 54 (by decide) (by decide) (by decide) (by decide)]
      exact B
    · unfold ownR
      rw [f12 53 (by decide) (by decide) (by decide) (by decide)]
      exact O
  · generalize hJ3 : j_up (atJ J2 p s x y t) 0 89 (nI (m + 1)) = J3
    have g3 : ∀ c, c ≠ 0 → J3 c = atJ J2 p s x y t c := fun c hc => by rw [← hJ3, j_up_cell _ hc]
    have g3o : ∀ c, c ≠ 0 → c ≠ 49 → c ≠ 50 → c ≠ 51 → c ≠ 52 → c ≠ 55 → c ≠ 56 → J3 c = J c := fun c b0 b1 b2 b3 b4 b5 b6 => by rw [g3 c b0, atJ_o _ _ _ _ _ _ b1 b2 b3 b4, f12 c b0 b1 b5 b6]
    have t4 : T ≤ 4 := by rw [hT]; split <;> omega
    have m89 : atJ J2 p s x y t 0 89 = nI m := by rw [atJ_o _ _ _ _ _ _ (by decide) (by decide) (by decide) (by decide), c0 89 (by decide), h89]
    obtain ⟨J', f4, B4, O4, k4⟩ := lay_r (e := e + 1) (L' := L') (nr := nr) (o := o) G (rCst_eq1 hr (fun c hc h6 => g3o c hc (by omega) (by omega) (by omega) (by omega) (by omega) (by omega))) hk (show p < 32 by omega) hg a1 (show t < 4 by omega) (by rw [g3o 48 (by decide) (by decide) (by decide) (by decide) (by decide) (by decide) (by decide), hJ]) (by rw [g3 49 (by decide), atJ_49, if_pos rfl]) (by rw [g3 50 (by decide), atJ_50, if_pos rfl]) (by rw [g3 51 (by decide), atJ_51, if_pos rfl]) (by rw [g3 52 (by decide), atJ_52, if_pos rfl]) (fun j hj => by rw [g3o 6 (by decide) (by decide) (by decide) (by decide) (by decide) (by decide) (by decide), hv j hj]) hw hh a5 (by
      unfold barR
      rw [g3o 54 (by decide) (by decide) (by decide) (by decide) (by decide) (by decide) (by decide)]
      exact B) (by
      unfold ownR
      rw [g3o 53 (by decide) (by decide) (by decide) (by decide) (by decide) (by decide) (by decide)]
      exact O)
    have q4 : ∀ c, 49 ≤ c → c ≤ 52 → J' c = atJ J2 p s x y t c := fun c b1 b2 => by rw [f4.1 c (by omega) (by omega) (by omega) (by omega) (by omega), g3 c (by omega)]
    refine ⟨J', ⟨fun c b0 b1 b2 b3 b4 b5 b6 b7 b8 => by rw [f4.1 c b0 b5 b6 b7 b8, g3o c b0 b1 b2 b3 b4 b7 b8], fun f b1 b2 => ?_, fun c b1 b2 k' hk' => ?_⟩, ?_, Or.inr ⟨s, y, x, t, ⟨a1, a2, a3, a4, a5, a6⟩, by rw [q4 49 (by decide) (by decide), atJ_49, if_pos rfl], by rw [q4 50 (by decide) (by decide), atJ_50, if_pos rfl], by rw [q4 51 (by decide) (by decide), atJ_51, if_pos rfl], by rw [q4 52 (by decide) (by decide), atJ_52, if_pos rfl], ?_, B4, O4⟩⟩
    · rw [f4.2 f b1, ← hJ3, j_up_own, if_neg b2, atJ_o _ _ _ _ _ _ (by decide) (by decide) (by decide) (by decide), c0 f b1]
    · rw [q4 c b1 b2]
      rcases (show c = 49 ∨ c = 50 ∨ c = 51 ∨ c = 52 by omega) with rfl | rfl | rfl | rfl
      · rw [atJ_49, if_neg hk', c49, if_neg hk']
      · rw [atJ_50, if_neg hk', f12 50 (by decide) (by decide) (by decide) (by decide)]
      · rw [atJ_51, if_neg hk', f12 51 (by decide) (by decide) (by decide) (by decide)]
      · rw [atJ_52, if_neg hk', f12 52 (by decide) (by decide) (by decide) (by decide)]
    · rw [st _ a7, B334_86, if_pos jp, nI_clamp (n := p) (by omega), atJ_49, if_pos rfl, if_neg (show ¬ nI s < 0 from nI_nlt (b := 0) (by omega) (by omega)), m89, nI_1 m, hJ3, jgo_some (d := e + 3) rfl k4]
      dsimp only [Option.toList_none, List.nil_append]
      rw [B334_111, nI_1 p]
    · rw [f4.2 89 (by decide), ← hJ3, j_up_self]
end NESTI
