/-! SEA: weights, second one -/
section SEAZ
variable {d e : Nat} {I J : Nat → Nat → Int32} {L L' : Nat → Nat → Int64} {m : Nat → Int32} {o : Nat}
/-- how many slices a weight lies on -/
def nWt (m : Nat → Int32) (k : Nat) : Nat := if 0 < mv m (280 + k * 5) then mNa m (282 + k * 5) + 1 - mNa m (281 + k * 5) else 0
/-- a weight's share of a slice: 0 itself, 1 along, 2 across, 3 up -/
def fWt (m : Nat → Int32) (w k s : Nat) : Int := if w = 0 then 1024 * mv m (280 + k * 5) else if w = 1 then 1024 * mv m (280 + k * 5) * (2 * s - 15) else if w = 2 then 1024 * mv m (280 + k * 5) * mv m (283 + k * 5) else 1024 * mv m (280 + k * 5) * 128 * mv m (284 + k * 5)
def gWt (m : Nat → Int32) (w k : Nat) : Int := sZ (fWt m w k) (mNa m (281 + k * 5)) (nWt m k)
def fW (m : Nat → Int32) (w : Nat) : Int := sZ (gWt m w) 0 24
/-- whether a space has a liquid -/
abbrev hasL (m : Nat → Int32) (o p : Nat) : Prop := 0 < mv m (400 + p * 2) ∧ o.testBit p = false
def gWT (m : Nat → Int32) (o p : Nat) : Int := if hasL m o p then 64 * mv m (400 + p * 2) * mv m (401 + p * 2) else 0
/-- all that the ship carries -/
def WT (m : Nat → Int32) (o : Nat) : Int := fW m 0 + sZ (gWT m o) 0 16
noncomputable def gWW (m : Nat → Int32) (o w : Nat) (b c : Int) (p : Nat) : Int := if hasL m o p then LW m p w (liqL m p b c) b c * mv m (401 + p * 2) else 0
/-- its moments -/
noncomputable def WW (m : Nat → Int32) (o w : Nat) (b c : Int) : Int := fW m w + sZ (gWW m o w b c) 0 16
theorem mQ.wt (h : mQ m I J) {k : Nat} (hk : k < 24) : ∃ w f1 f2 f4, w ≤ 60000 ∧ f1 ≤ 15 ∧ f2 ≤ 15 ∧ f4 ≤ 2000 ∧ m (280 + k * 5) = nI w ∧ m (281 + k * 5) = nI f1 ∧ m (282 + k * 5) = nI f2 ∧ m (284 + k * 5) = nI f4 := by
  obtain ⟨g0, c0, n0⟩ := ok_m (h.2.2.1 (280 + k * 5) (by omega)) (a := 3) (b := k) (c := 0) (N := 60000) (by decide) hk (by decide) (by show 280 + k * 5 = 280 + k * 5 + 0; omega) (by intro v hv; show v < 0; exact hv) rfl
  obtain ⟨g1, c1, n1⟩ := ok_m (h.2.2.1 (281 + k * 5) (by omega)) (a := 3) (b := k) (c := 1) (N := 15) (by decide) hk (by decide) (by show 281 + k * 5 = 280 + k * 5 + 1; omega) (by intro v hv; show v < 0; exact hv) rfl
  obtain ⟨g2, c2, n2⟩ := ok_m (h.2.2.1 (282 + k * 5) (by omega)) (a := 3) (b := k) (c := 2) (N := 15) (by decide) hk (by decide) (by show 282 + k * 5 = 280 + k * 5 + 2; omega) (by intro v hv; show v < 0; exact hv) rfl
  obtain ⟨g4, c4, n4⟩ := ok_m (h.2.2.1 (284 + k * 5) (by omega)) (a := 3) (b := k) (c := 4) (N := 2000) (by decide) hk (by decide) (by show 284 + k * 5 = 280 + k * 5 + 4; omega) (by intro v hv; show v < 0; exact hv) rfl
  exact ⟨g0, g1, g2, g4, c0, c1, c2, c4, n0, n1, n2, n4⟩
theorem mQ.fill (h : mQ m I J) {p : Nat} (hp : p < 16) : ∃ x y, x ≤ 600000 ∧ y ≤ 32 ∧ m (400 + p * 2) = nI x ∧ m (401 + p * 2) = nI y := by
  obtain ⟨g0, c0, n0⟩ := ok_m (h.2.2.1 (400 + p * 2) (by omega)) (a := 4) (b := p) (c := 0) (N := 600000) (by decide) hp (by decide) (by show 400 + p * 2 = 400 + p * 2 + 0; omega) (by intro v hv; show v < 0; exact hv) rfl
  obtain ⟨g1, c1, n1⟩ := ok_m (h.2.2.1 (401 + p * 2) (by omega)) (a := 4) (b := p) (c := 1) (N := 32) (by decide) hp (by decide) (by show 401 + p * 2 = 400 + p * 2 + 1; omega) (by intro v hv; show v < 1; exact Int32.lt_trans hv (by decide)) rfl
  exact ⟨g0, g1, c0, c1, n0, n1⟩
theorem sZ_const (c : Int) (a : Nat) : ∀ n : Nat, sZ (fun _ => c) a n = c * n := by
  intro n
  induction n with
  | zero => show (0 : Int) = c * 0; omega
  | succ n ih =>
    show sZ (fun _ => c) a n + c = c * ((n + 1 : Nat) : Int)
    rw [ih, show ((n + 1 : Nat) : Int) = n + 1 by omega, Int.mul_add, Int.mul_one]
theorem gWt_0 (m : Nat → Int32) (k : Nat) : gWt m 0 k = 1024 * mv m (280 + k * 5) * nWt m k := by
  unfold gWt
  rw [← sZ_const (1024 * mv m (280 + k * 5)) (mNa m (281 + k * 5)) (nWt m k)]
  rfl
/-- whether a space has a liquid, second one -/
theorem hasl_r (h : mQ m I J) (ho : J 0 62 = nI o) {p : Nat} (hp : p < 16) : jv (e + 1) 307 0 [some (.ref 0), some (.int (nI p))] [] (shR, J, L, pR) = some (some (.int (if hasL m o p then 1 else 0)), (shR, J, L, pR)) := by
  obtain ⟨x, y, x1, y1, n0, n1⟩ := h.fill hp
  rw [B307_0, g_at_4_0 h.2.2.2]
  dsimp only [Option.toList_some, List.cons_append, List.nil_append]
  rw [B307_11, if_pos (j_in_nI (by omega) (by decide)), nI_clamp (by omega), h.2.1 _ (by omega), n0]
  have hx := mv_n n0 (by omega)
  by_cases z : 0 < x
  · rw [if_pos (show (0 : Int32) < nI x from nI_lt (a := 0) z (by omega)), jgo_some (d := e) rfl (open_r ho hp)]
    dsimp only [Option.toList_some, List.cons_append, List.nil_append]
    rw [B307_20]
    by_cases q : o.testBit p = true
    · rw [if_pos q, if_neg (show ¬ (1 : Int32) = 0 by decide), B307_27, B307_28, if_pos bl_0, if_neg (fun y : hasL m o p => by have := y.2; rw [q] at this; cases this)]
    · rw [if_neg q, if_pos rfl, B307_28, if_pos bl_1, if_pos (show hasL m o p from ⟨by omega, by simpa using q⟩)]
  · rw [if_neg (show ¬ (0 : Int32) < nI x from nI_nlt (a := 0) (by omega) (by decide)), B307_27, B307_28, if_pos bl_0, if_neg (fun y : hasL m o p => by have := y.1; omega)]
/-- the weight of all, second one -/
theorem weight_r (h : mQ m I J) (hw : ∀ k, k < 24 → wtR m k) (ho : J 0 62 = nI o) : jv (e + 2) 309 0 [some (.ref 0), none, none, none, none] [] (shR, J, L, pR) = some (some (.long (lI (WT m o))), (shR, J, L, pR)) := by
  have l1 : ∀ (r k : Nat) (A : Int) (o4 : Option Value), k + r = 24 → ∃ p4, jv (e + 2) 309 4 [some (.ref 0), some (.long (lI A)), none, some (.int (nI k)), o4] [] (shR, J, L, pR) = jv (e + 2) 309 75 [some (.ref 0), some (.long (lI (A + sZ (gWt m 0) k r))), none, some (.int 0), p4] [] (shR, J, L, pR) := by
    intro r
    induction r with
    | zero =>
      intro k A o4 hk
      refine ⟨o4, ?_⟩
      rw [B309_4, if_neg (show ¬ nI k < 24 from nI_nlt (b := 24) (by omega) (by omega))]
      show _ = jv _ _ _ [_, some (Value.long (lI (A + 0))), _, _, _] _ _
      rw [Int.add_zero]
    | succ r ih =>
      intro k A o4 hk
      obtain ⟨w, f1, f2, f4, w1, b1, b2, b4, n0, n1, n2, n4⟩ := h.wt (k := k) (by omega)
      have e1 : nI (280 + k * 5) + 1 = nI (281 + k * 5) := by rw [nI_1, show 280 + k * 5 + 1 = 281 + k * 5 by omega]
      have e2 : nI (280 + k * 5) + 2 = nI (282 + k * 5) := by rw [show nI (280 + k * 5) + 2 = nI (280 + k * 5 + 2) from nI_add _ 2, show 280 + k * 5 + 2 = 282 + k * 5 by omega]
      have j0 : j_in (nI (280 + k * 5)) 1189 = true := j_in_nI (by omega) (by decide)
      rw [B309_4, if_pos (show nI k < 24 from nI_lt (b := 24) (by omega) (by decide)), g_at_3_0 h.2.2.2]
      dsimp only [Option.toList_some, List.cons_append, List.nil_append]
      rw [B309_17, if_pos j0, nI_clamp (n := 280 + k * 5) (by omega), h.2.1 _ (by omega), sZ_front, gWt_0]
      unfold nWt
      rw [mv_n n0 (by omega), mN_n n1 (by omega), mN_n n2 (by omega), n0]
      by_cases z : 0 < w
      · have hle : f1 ≤ f2 := by
          rcases hw k (by omega) with y | y
          · rw [n0] at y
            exact absurd ((nI_eq (b := 0) (by omega) (by decide)).mp y) (by omega)
          · rw [mN_n n1 (by omega), mN_n n2 (by omega)] at y; exact y
        rw [if_pos (show (0 : Int32) < nI w from nI_lt (a := 0) z (by omega)), if_pos j0, e1, e2, if_pos (j_in_nI (by omega) (by decide)), if_pos (j_in_nI (by omega) (by decide)), nI_clamp (n := 281 + k * 5) (by omega), nI_clamp (n := 282 + k * 5) (by omega), h.2.1 (281 + k * 5) (by omega), h.2.1 (282 + k * 5) (by omega), n1, n2, B309_67, if_pos (show (0 : Int) < w by omega), nI_sub hle, nI_1, nI64 (by omega), nI64 (by omega), show (1024 : Int64) = lI 1024 from rfl, lI_mul, lI_mul, lI_add, nI_1, ← Int.add_assoc, show f2 - f1 + 1 = f2 + 1 - f1 by omega]
        exact ih (k + 1) _ _ (by omega)
      · rw [if_neg (show ¬ (0 : Int32) < nI w from nI_nlt (a := 0) (by omega) (by decide)), B309_67, if_neg (show ¬ (0 : Int) < w by omega), nI_1, show ((0 : Nat) : Int) = 0 from rfl, Int.mul_zero, Int.zero_add]
        exact ih (k + 1) _ _ (by omega)
  have l2 : ∀ (r p : Nat) (A : Int) (o4 : Option Value), p + r = 16 → jv (e + 2) 309 75 [some (.ref 0), some (.long (lI A)), none, some (.int (nI p)), o4] [] (shR, J, L, pR) = some (some (.long (lI (A + sZ (gWT m o) p r))), (shR, J, L, pR)) := by
    intro r
    induction r with
    | zero =>
      intro p A o4 hp
      rw [B309_75, if_neg (show ¬ nI p < 16 from nI_nlt (b := 16) (by omega) (by omega))]
      show _ = some (some (Value.long (lI (A + 0))), _)
      rw [Int.add_zero]
    | succ r ih =>
      intro p A o4 hp
      have hp16 : p < 16 := by omega
      rw [B309_75, if_pos (show nI p < 16 from nI_lt (b := 16) (by omega) (by decide)), jgo_some (d := e + 1) rfl (hasl_r h ho hp16), sZ_front]
      dsimp only [Option.toList_some, List.cons_append, List.nil_append]
      rw [B309_86]
      unfold gWT
      by_cases z : hasL m o p
      · rw [if_pos z, if_pos z, if_neg (show ¬ (1 : Int32) = 0 by decide), g_at_4_0 h.2.2.2]
        dsimp only [Option.toList_some, List.cons_append, List.nil_append]
        rw [B309_104, if_pos (j_in_nI (by omega) (by decide)), nI_clamp (by omega), h.2.1 _ (by omega), m64, g_at_4_1 h.2.2.2]
        dsimp only [Option.toList_some, List.cons_append, List.nil_append]
        rw [B309_118, if_pos (j_in_nI (by omega) (by decide)), nI_clamp (by omega), h.2.1 _ (by omega), m64, show (64 : Int64) = lI 64 from rfl, lI_mul, lI_mul, lI_add, B309_123, nI_1, ← Int.add_assoc]
        exact ih (p + 1) _ _ (by omega)
      · rw [if_neg z, if_neg z, if_pos rfl, B309_123, nI_1, Int.zero_add]
        exact ih (p + 1) _ _ (by omega)
  obtain ⟨p4, q⟩ := l1 24 0 0 none (by omega)
  rw [B309_0, show (0 : Int64) = lI 0 from rfl, show (0 : Int32) = nI 0 from rfl, q, show (0 : Int32) = nI 0 from rfl, l2 16 0 _ p4 (by omega)]
  unfold WT fW
  rw [Int.zero_add]
end SEAZ
