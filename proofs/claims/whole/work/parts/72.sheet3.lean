/-! SHEETS: the reference's walk over all cells; both tell the same, but for the rests -/
def shF (o : Nat → Nat → Nat → Nat) (s k : Nat) : Nat → Nat → Nat → Nat := if k = 1 then sh1 o s else if k = 2 then sh2 o s else sh4 o s
def cntN (p : Nat → Bool) : Nat → Nat
  | 0 => 0
  | n + 1 => cntN p n + (if p n then 1 else 0)
section SHEET3
variable {d e : Nat} {I J : Nat → Nat → Int32} {L L' : Nat → Nat → Int64} {pa pb pu pw : Option Nat} {K : Option Value → jS → jO} {w h : Nat} {o : Nat → Nat → Nat → Nat}
theorem r_cell (H : shIn w h o I J) {s k a x y : Nat} (hs : s < 6) (hk : 0 < k) (hk3 : k < 4) (hx : x < 64) (hy : y < 48) (o6 : Option Value) : jv (e + 1) 339 119 [some (.ref 0), some (.int (nI s)), some (.int (nI k)), some (.int (nI a)), some (.int (nI y)), some (.int (nI x)), o6] [] (shR, J, L', pR) = jv (e + 1) 339 119 [some (.ref 0), some (.int (nI s)), some (.int (nI k)), some (.int (nI (shF o s k y x a))), some (.int (nI y)), some (.int (nI (x + 1))), some (.int (nI (o s x y)))] [] (shR, J, L', pR) := by
  obtain ⟨h1, h2, h3, h4, h5, h6, h7, h8, h9, ha, hb⟩ := id H
  have hz := h7 s x y
  have e1 : 3072 * nI s + 64 * nI y + nI x = nI (3072 * s + 64 * y + x) := by
    rw [show 3072 * nI s = nI (3072 * s) from nI_mul 3072 s, show 64 * nI y = nI (64 * y) from nI_mul 64 y, nI_add, nI_add]
  rw [B339_119, if_pos (show nI x < 64 from nI_lt (b := 64) hx (by decide)), e1, if_pos (j_in_nI (by omega) (by decide)), nI_clamp (by omega), h9 s hs x y hx hy]
  by_cases q : o s x y = 0
  · rw [if_neg (show ¬ (0 : Int32) < nI (o s x y) by rw [q]; decide), B339_189, nI_1 x]
    have e2 : shF o s k y x a = a := by
      unfold shF
      split
      · show (if o s x y = 0 then a else a + 1) = a
        rw [if_pos q]
      · split
        · show (if o s x y = 0 then a else y + 1) = a
          rw [if_pos q]
        · show a + (cutN (o s x y) (o s (x + 1) y) + cutN (o s x y) (prvN (fun x => o s x y) x) + (cutN (o s x y) (o s x (y + 1)) + cutN (o s x y) (prvN (o s x) y))) = a
          rw [q, cutN_0, cutN_0, cutN_0, cutN_0]
          omega
    rw [e2]
  · rw [if_pos (show (0 : Int32) < nI (o s x y) from nI_lt (a := 0) (by omega) hz)]
    unfold shF
    rcases (show k = 1 ∨ k = 2 ∨ k = 3 by omega) with rfl | rfl | rfl
    · rw [if_pos (by decide), B339_188, B339_189, if_pos rfl, nI_1 x, nI_1 a]
      show _ = jv (e + 1) 339 119 [some (.ref 0), some (.int (nI s)), some (.int (nI 1)), some (.int (nI (if o s x y = 0 then a else a + 1))), some (.int (nI y)), some (.int (nI (x + 1))), some (.int (nI (o s x y)))] [] (shR, J, L', pR)
      rw [if_neg q]
    · rw [if_neg (by decide), if_pos (by decide), B339_188, B339_189, if_neg (by decide), if_pos rfl, nI_1 x, nI_1 y]
      show _ = jv (e + 1) 339 119 [some (.ref 0), some (.int (nI s)), some (.int (nI 2)), some (.int (nI (if o s x y = 0 then a else y + 1))), some (.int (nI y)), some (.int (nI (x + 1))), some (.int (nI (o s x y)))] [] (shR, J, L', pR)
      rw [if_neg q]
    · rw [if_neg (by decide), if_neg (by decide), jgo_some (d := e) rfl (r340 H hs hx hy (by omega))]
      dsimp only [Option.toList_some, List.cons_append, List.nil_append]
      rw [B339_187, B339_188, B339_189, if_neg (by decide), if_neg (by decide), nI_1 x, nI_add]
      rfl
theorem r_row (H : shIn w h o I J) {s k a y : Nat} (hs : s < 6) (hk : 0 < k) (hk3 : k < 4) (hy : y < 48) (o6 : Option Value) : ∃ o6' : Option Value, jv (e + 1) 339 119 [some (.ref 0), some (.int (nI s)), some (.int (nI k)), some (.int (nI a)), some (.int (nI y)), some (.int (nI 0)), o6] [] (shR, J, L', pR) = jv (e + 1) 339 119 [some (.ref 0), some (.int (nI s)), some (.int (nI k)), some (.int (nI (wkx (shF o s k) y 64 a))), some (.int (nI y)), some (.int (nI 64)), o6'] [] (shR, J, L', pR) :=
  j_runE (fun x (o6 : Option Value) => jv (e + 1) 339 119 [some (.ref 0), some (.int (nI s)), some (.int (nI k)), some (.int (nI (wkx (shF o s k) y x a))), some (.int (nI y)), some (.int (nI x)), o6] [] (shR, J, L', pR)) 64 (fun x hx o6 => ⟨_, r_cell H hs hk hk3 hx hy o6⟩) o6
theorem r_all (H : shIn w h o I J) {s k : Nat} (hs : s < 6) (hk : 0 < k) (hk3 : k < 4) (o5 o6 : Option Value) : jv (e + 1) 339 109 [some (.ref 0), some (.int (nI s)), some (.int (nI k)), some (.int (nI 0)), some (.int (nI 0)), o5, o6] [] (shR, J, L', pR) = some (some (.int (nI (wky (shF o s k) 64 48 0))), (shR, J, L', pR)) := by
  obtain ⟨z, hz⟩ := j_runE (fun y (o4 : Option Value × Option Value) => jv (e + 1) 339 109 [some (.ref 0), some (.int (nI s)), some (.int (nI k)), some (.int (nI (wky (shF o s k) 64 y 0))), some (.int (nI y)), o4.1, o4.2] [] (shR, J, L', pR)) 48 (fun y hy o4 => by
    obtain ⟨z, hz⟩ := r_row (e := e) (L' := L') H hs hk hk3 (y := y) (a := wky (shF o s k) 64 y 0) hy o4.2
    refine ⟨(some (.int (nI 64)), z), ?_⟩
    rw [B339_109, if_pos (show nI y < 48 from nI_lt (b := 48) hy (by decide))]
    refine hz.trans ?_
    rw [B339_119, if_neg (by decide), nI_1 y]
    rfl) (o5, o6)
  refine hz.trans ?_
  rw [B339_109, if_neg (by decide)]
theorem wk_same (H : shIn w h o I J) (s : Nat) : wky (shF o s 1) 64 48 0 = wky (sh1 o s) w h 0 ∧ wky (shF o s 2) 64 48 0 = wky (sh2 o s) w h 0 ∧ wky (shF o s 3) 64 48 0 = wky (sh3 o s) (w + 1) (h + 1) 0 := by
  obtain ⟨h1, h2, h3, h4, h5, h6, h7, h8, h9, ha, hb⟩ := id H
  refine ⟨?_, ?_, ?_⟩
  · show wky (sh1 o s) 64 48 0 = _
    rw [wky_w (f := sh1 o s) (w := w) (fun y x a q => if_pos (ha s x y q)) h1, wky_more (f := sh1 o s) (h := h) (fun y x a q => if_pos (hb s x y q)) h2]
  · show wky (sh2 o s) 64 48 0 = _
    rw [wky_w (f := sh2 o s) (w := w) (fun y x a q => if_pos (ha s x y q)) h1, wky_more (f := sh2 o s) (h := h) (fun y x a q => if_pos (hb s x y q)) h2]
  · show wky (sh4 o s) 64 48 0 = _
    refine Eq.trans (wky_sm (fun x y => cutN (o s x y) (o s (x + 1) y) + cutN (o s x y) (prvN (fun x => o s x y) x) + (cutN (o s x y) (o s x (y + 1)) + cutN (o s x y) (prvN (o s x) y))) 64 48) ?_
    refine Eq.trans ?_ (wky_sm (fun x y => (if o s x y = prvN (fun x => o s x y) x then 0 else 1) + (if o s x y = prvN (o s x) y then 0 else 1)) (w + 1) (h + 1)).symm
    exact (cut_all (o := o s) (fun x y q => ha s x y q) (fun x y q => hb s x y q) h2 h1).symm
/-- the pieces of a sheet -/
def onN (J : Nat → Nat → Int32) (s : Nat) : Nat → Nat
  | 0 => 0
  | k + 1 => if J 49 k = nI s then onN J s k + 1 else onN J s k
theorem c0_all {n : Nat} (hn : n ≤ 32) (r1 : I 83 1 = nI n) (r4 : ∀ k, k < n → I 85 k = J 49 k) {s : Nat} : jv d 122 0 [some (.ref 83), some (.int (nI s)), none, none] [] (shC, I, L, pX pa pb pu pw) = some (some (.int (nI (onN J s n))), (shC, I, L, pX pa pb pu pw)) := by
  rw [B122_0]
  refine (j_run (fun k => jv d 122 4 [some (.ref 83), some (.int (nI s)), some (.int (nI (onN J s k))), some (.int (nI k))] [] (shC, I, L, pX pa pb pu pw)) n (fun k hk => ?_)).trans ?_
  · rw [B122_4, r1, if_pos (nI_lt hk (by omega)), if_pos (j_in_nI (by omega) (by decide)), nI_clamp (by omega), r4 k hk]
    show _ = jv d 122 4 [some (.ref 83), some (.int (nI s)), some (.int (nI (if J 49 k = nI s then onN J s k + 1 else onN J s k))), some (.int (nI (k + 1)))] [] (shC, I, L, pX pa pb pu pw)
    by_cases q : J 49 k = nI s
    · rw [if_pos q, if_pos q, B122_28, nI_1, nI_1]
    · rw [if_neg q, if_neg q, B122_28, nI_1 k, show nI (onN J s k) + 0 = nI (onN J s k + 0) from nI_add _ 0]
      rfl
  · rw [B122_4, r1, if_neg (nI_nlt (Nat.le_refl _) (by omega))]
theorem r0_all {n : Nat} (hn : n ≤ 32) (r2 : J 0 88 = nI n) {s k : Nat} (o5 o6 : Option Value) : jv e 339 49 [some (.ref 0), some (.int (nI s)), some (.int (nI k)), some (.int (nI 0)), some (.int (nI 0)), o5, o6] [] (shR, J, L', pR) = some (some (.int (nI (onN J s n))), (shR, J, L', pR)) := by
  refine (j_run (fun t => jv e 339 49 [some (.ref 0), some (.int (nI s)), some (.int (nI k)), some (.int (nI (onN J s t))), some (.int (nI t)), o5, o6] [] (shR, J, L', pR)) n (fun t ht => ?_)).trans ?_
  · rw [B339_49, r2, if_pos (nI_lt ht (by omega)), if_pos (j_in_nI (by omega) (by decide)), nI_clamp (by omega)]
    show _ = jv e 339 49 [some (.ref 0), some (.int (nI s)), some (.int (nI k)), some (.int (nI (if J 49 t = nI s then onN J s t + 1 else onN J s t))), some (.int (nI (t + 1))), o5, o6] [] (shR, J, L', pR)
    by_cases q : J 49 t = nI s
    · rw [if_pos q, if_pos q, B339_75, nI_1, nI_1]
    · rw [if_neg q, if_neg q, B339_75, nI_1 t, show nI (onN J s t) + 0 = nI (onN J s t + 0) from nI_add _ 0]
      rfl
  · rw [B339_49, r2, if_neg (nI_nlt (Nat.le_refl _) (by omega))]
end SHEET3
