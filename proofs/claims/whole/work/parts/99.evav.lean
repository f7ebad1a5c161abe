/-! RULES: steel along the ship -/
section EVAV
variable {m : Nat → Int32} {I J : Nat → Nat → Int32} {L L' : Nat → Nat → Int64} {pa pb pu pw : Option Nat} {d e : Nat}
def mN (m : Nat → Int32) (q : Nat) : Nat := (m q).toNatClampNeg
def stlT (m : Nat → Int32) (s : Int32) (what k : Nat) : Nat := if m (480 + k * 5) = 0 ∨ s < m (480 + k * 5 + 1) ∨ m (480 + k * 5 + 2) < s then 0 else if what = 0 then mN m (480 + k * 5) else if what = 1 then mN m (480 + k * 5) * mN m (480 + k * 5 + 3) else mN m (480 + k * 5) * mN m (480 + k * 5 + 3) * mN m (480 + k * 5 + 3) + mN m (480 + k * 5 + 4)
def stlS (m : Nat → Int32) (s : Int32) (what : Nat) : Nat := smN (stlT m s what) 24
/-- a row of steel -/
theorem steel_row (h : mK m I J) {k : Nat} (hk : k < 24) : m (480 + k * 5) = nI (mN m (480 + k * 5)) ∧ mN m (480 + k * 5) ≤ 10000 ∧ m (480 + k * 5 + 3) = nI (mN m (480 + k * 5 + 3)) ∧ mN m (480 + k * 5 + 3) ≤ 2000 ∧ m (480 + k * 5 + 4) = nI (mN m (480 + k * 5 + 4)) ∧ mN m (480 + k * 5 + 4) ≤ 1000000000 := by
  have key : ∀ f N, f < 5 → leastv 6 f = 0 → mostv 6 f = nI N → N < 2 ^ 31 → m (480 + k * 5 + f) = nI (mN m (480 + k * 5 + f)) ∧ mN m (480 + k * 5 + f) ≤ N := by
    intro f N hf hl hm hN
    obtain ⟨x, x1, x2⟩ := h.nat 6 k f N (by decide) hk hf (show 480 + k * 5 + f < 1189 by omega) hl hm hN
    have x2 : m (480 + k * 5 + f) = nI x := x2
    have : mN m (480 + k * 5 + f) = x := by unfold mN; rw [x2]; exact nI_clamp (by omega)
    rw [this]
    exact ⟨x2, x1⟩
  have k0 := key 0 10000 (by decide) (by decide) (by decide) (by decide)
  have k3 := key 3 2000 (by decide) (by decide) (by decide) (by decide)
  have k4 := key 4 1000000000 (by decide) (by decide) (by decide) (by decide)
  exact ⟨k0.1, k0.2, k3.1, k3.2, k4.1, k4.2⟩
theorem stlT_b (h : mK m I J) {s : Int32} {what k : Nat} (hk : k < 24) : stlT m s what k ≤ 41000000000 := by
  obtain ⟨_, a, _, b, _, c⟩ := steel_row h hk
  unfold stlT
  have p1 : mN m (480 + k * 5) * mN m (480 + k * 5 + 3) ≤ 10000 * 2000 := Nat.mul_le_mul a b
  have p2 : mN m (480 + k * 5) * mN m (480 + k * 5 + 3) * mN m (480 + k * 5 + 3) ≤ 10000 * 2000 * 2000 := Nat.mul_le_mul p1 b
  split
  · omega
  split
  · omega
  split
  · omega
  · omega
theorem stlS_b (h : mK m I J) (s : Int32) (what : Nat) : stlS m s what ≤ 24 * 41000000000 := smN_le _ _ _ (fun k hk => stlT_b h hk)
theorem nI64 {n : Nat} (h : n < 2 ^ 31) : (nI n).toInt64 = lI n := t64 (nI_toInt h)
theorem steel_c (h : mK m I J) (s : Int32) {what : Nat} (hw : what < 3) : jv (d + 1) 59 0 [some (.ref 1), some (.int s), some (.int (nI what)), none, none, none, none, none, none, none] [] (shC, I, L, pX pa pb pu pw) = some (some (.long (lI (stlS m s what))), (shC, I, L, pX pa pb pu pw)) := by
  have loop : ∀ r i o6 o7 o8 o9, i + r = 24 → jv (d + 1) 59 5 [some (.ref 1), some (.int s), some (.int (nI what)), some (.long (lI (smN (stlT m s what) i))), none, some (.int (nI i)), o6, o7, o8, o9] [] (shC, I, L, pX pa pb pu pw) = some (some (.long (lI (stlS m s what))), (shC, I, L, pX pa pb pu pw)) := by
    intro r
    induction r with
    | zero =>
      intro i o6 o7 o8 o9 hi
      rw [B59_5_o1, if_pos (by decide), show z_0.getD (6 : Int32).toNatClampNeg 0 = nI 24 by decide, if_neg (nI_nlt (by omega) (by omega)), show i = 24 by omega]
      rfl
    | succ r ih =>
      intro i o6 o7 o8 o9 hi
      have hi24 : i < 24 := by omega
      obtain ⟨a0, a1, h0, h1, w0, w1⟩ := steel_row h hi24
      have g0 : jv d 51 0 [some (.ref 1), some (.int 6), some (.int (nI i)), some (.int 0), none] [] (shC, I, L, pX pa pb pu pw) = some (some (.int (m (480 + i * 5))), (shC, I, L, pX pa pb pu pw)) := by
        rw [← h.1 (480 + i * 5) (by omega)]; exact of_1 (a := 6) (b := i) (c := 0) (by decide) hi24 (by decide) none
      have g1 : jv d 51 0 [some (.ref 1), some (.int 6), some (.int (nI i)), some (.int 1), none] [] (shC, I, L, pX pa pb pu pw) = some (some (.int (m (480 + i * 5 + 1))), (shC, I, L, pX pa pb pu pw)) := by
        rw [← h.1 (480 + i * 5 + 1) (by omega)]; exact of_1 (a := 6) (b := i) (c := 1) (by decide) hi24 (by decide) none
      have g2 : jv d 51 0 [some (.ref 1), some (.int 6), some (.int (nI i)), some (.int 2), none] [] (shC, I, L, pX pa pb pu pw) = some (some (.int (m (480 + i * 5 + 2))), (shC, I, L, pX pa pb pu pw)) := by
        rw [← h.1 (480 + i * 5 + 2) (by omega)]; exact of_1 (a := 6) (b := i) (c := 2) (by decide) hi24 (by decide) none
      have g3 : jv d 51 0 [some (.ref 1), some (.int 6), some (.int (nI i)), some (.int 3), none] [] (shC, I, L, pX pa pb pu pw) = some (some (.int (m (480 + i * 5 + 3))), (shC, I, L, pX pa pb pu pw)) := by
        rw [← h.1 (480 + i * 5 + 3) (by omega)]; exact of_1 (a := 6) (b := i) (c := 3) (by decide) hi24 (by decide) none
      have g4 : jv d 51 0 [some (.ref 1), some (.int 6), some (.int (nI i)), some (.int 4), none] [] (shC, I, L, pX pa pb pu pw) = some (some (.int (m (480 + i * 5 + 4))), (shC, I, L, pX pa pb pu pw)) := by
        rw [← h.1 (480 + i * 5 + 4) (by omega)]; exact of_1 (a := 6) (b := i) (c := 4) (by decide) hi24 (by decide) none
      have next : ∀ (x : Nat) o6 o8 o9, x = stlT m s what i → jv (d + 1) 59 120 [some (.ref 1), some (.int s), some (.int (nI what)), some (.long (lI (smN (stlT m s what) i) + lI x)), none, some (.int (nI i)), some (.long o6), none, o8, o9] [] (shC, I, L, pX pa pb pu pw) = some (some (.long (lI (stlS m s what))), (shC, I, L, pX pa pb pu pw)) := by
        intro x o6 o8 o9 hx
        rw [B59_120_o1, show nI i + 1 = nI (i + 1) from nI_add i 1, lI_add, hx, show ((smN (stlT m s what) i : Nat) : Int) + ((stlT m s what i : Nat) : Int) = ((smN (stlT m s what) (i + 1) : Nat) : Int) from (Int.natCast_add _ _).symm]
        exact ih (i + 1) _ _ _ _ (by omega)
      have skip : ∀ o6 o8 o9, stlT m s what i = 0 → jv (d + 1) 59 120 [some (.ref 1), some (.int s), some (.int (nI what)), some (.long (lI (smN (stlT m s what) i))), none, some (.int (nI i)), some (.long o6), none, o8, o9] [] (shC, I, L, pX pa pb pu pw) = some (some (.long (lI (stlS m s what))), (shC, I, L, pX pa pb pu pw)) := by
        intro o6 o8 o9 hx
        have := next 0 o6 o8 o9 hx.symm
        rw [lI_add, show ((smN (stlT m s what) i : Nat) : Int) + ((0 : Nat) : Int) = ((smN (stlT m s what) i : Nat) : Int) by omega] at this
        exact this
      have a64 : (m (480 + i * 5)).toInt64 = lI (mN m (480 + i * 5)) := (congrArg Int32.toInt64 a0).trans (nI64 (by omega))
      have h64 : (m (480 + i * 5 + 3)).toInt64 = lI (mN m (480 + i * 5 + 3)) := (congrArg Int32.toInt64 h0).trans (nI64 (by omega))
      have w64 : (m (480 + i * 5 + 4)).toInt64 = lI (mN m (480 + i * 5 + 4)) := (congrArg Int32.toInt64 w0).trans (nI64 (by omega))
      have z0 : m (480 + i * 5) = 0 ↔ mN m (480 + i * 5) = 0 := by
        constructor
        · intro z; unfold mN; rw [z]; rfl
        · intro z; rw [a0, z]; rfl
      have fb : fB ((mN m (480 + i * 5) : Nat) : Int) := ⟨by have : HG = 1000000000000000000 := rfl; omega, by have : HG = 1000000000000000000 := rfl; omega⟩
      rw [B59_5_o1, if_pos (by decide), show z_0.getD (6 : Int32).toNatClampNeg 0 = nI 24 by decide, if_pos (nI_lt (by omega) (by omega)), jgo_some (d := d) rfl g0]
      dsimp only [Option.toList_some, Option.toList_none, List.cons_append, List.nil_append]
      rw [B59_25_o1, a64]
      by_cases c1 : m (480 + i * 5) = 0
      · rw [if_pos ((lI_0 fb).mpr (by have := z0.mp c1; omega))]
        exact skip _ _ _ (if_pos (Or.inl c1))
      rw [if_neg (fun y => c1 (z0.mpr (by have := (lI_0 fb).mp y; omega))), jgo_some (d := d) rfl g1]
      dsimp only [Option.toList_some, Option.toList_none, List.cons_append, List.nil_append]
      rw [B59_45_o1]
      by_cases c2 : s < m (480 + i * 5 + 1)
      · rw [if_pos c2]
        exact skip _ _ _ (if_pos (Or.inr (Or.inl c2)))
      rw [if_neg c2, jgo_some (d := d) rfl g2]
      dsimp only [Option.toList_some, Option.toList_none, List.cons_append, List.nil_append]
      rw [B59_58_o1]
      by_cases c3 : m (480 + i * 5 + 2) < s
      · rw [if_pos c3]
        exact skip _ _ _ (if_pos (Or.inr (Or.inr c3)))
      rw [if_neg c3, jgo_some (d := d) rfl g3]
      dsimp only [Option.toList_some, Option.toList_none, List.cons_append, List.nil_append]
      rw [B59_73_o1, h64]
      have ng : ¬ (m (480 + i * 5) = 0 ∨ s < m (480 + i * 5 + 1) ∨ m (480 + i * 5 + 2) < s) := fun y => by rcases y with y | y | y; exact c1 y; exact c2 y; exact c3 y
      rcases (show what = 0 ∨ what = 1 ∨ what = 2 by omega) with y | y | y
      · rw [if_pos (by rw [y]; rfl), B59_118_o1]
        exact next _ _ _ _ (by unfold stlT; rw [if_neg ng, if_pos y])
      · rw [if_neg (show ¬ nI what = 0 by rw [y]; decide), if_pos (by rw [y]; rfl), B59_118_o1, lI_mul, ← Int.natCast_mul]
        exact next _ _ _ _ (by unfold stlT; rw [if_neg ng, if_neg (by omega), if_pos y])
      · rw [if_neg (show ¬ nI what = 0 by rw [y]; decide), if_neg (show ¬ nI what = 1 by rw [y]; decide), jgo_some (d := d) rfl g4]
        dsimp only [Option.toList_some, Option.toList_none, List.cons_append, List.nil_append]
        rw [B59_116_o1, B59_118_o1, w64, lI_mul, lI_mul, lI_add (_ * _), ← Int.natCast_mul, ← Int.natCast_mul, ← Int.natCast_add]
        exact next _ _ _ _ (by unfold stlT; rw [if_neg ng, if_neg (by omega), if_neg (by omega)])
  rw [B59_0_o1]
  exact loop 24 0 none none none none rfl
theorem steel_r (h : mK m I J) (s : Int32) {what : Nat} (hw : what < 3) : jv (e + 1) 329 0 [some (.ref 0), some (.int s), some (.int (nI what)), none, none, none, none, none, none, none, none] [] (shR, J, L', pR) = some (some (.long (lI (stlS m s what))), (shR, J, L', pR)) := by
  have loop : ∀ r i o6 o7 o8 o9 o10, i + r = 24 → jv (e + 1) 329 5 [some (.ref 0), some (.int s), some (.int (nI what)), some (.long (lI (smN (stlT m s what) i))), none, some (.int (nI i)), o6, o7, o8, o9, o10] [] (shR, J, L', pR) = some (some (.long (lI (stlS m s what))), (shR, J, L', pR)) := by
    intro r
    induction r with
    | zero =>
      intro i o6 o7 o8 o9 o10 hi
      rw [B329_5, if_neg (show ¬ nI i < (24 : Int32) from nI_nlt (b := 24) (by omega) (by omega)), show i = 24 by omega]
      rfl
    | succ r ih =>
      intro i o6 o7 o8 o9 o10 hi
      have hi24 : i < 24 := by omega
      obtain ⟨a0, a1, h0, h1, w0, w1⟩ := steel_row h hi24
      have g0 : jv e 214 0 [some (.ref 0), some (.int 6), some (.int (nI i)), some (.int 0)] [] (shR, J, L', pR) = some (some (.int (nI (480 + i * 5))), (shR, J, L', pR)) := at_ok (t := 6) h.2.2.2.1 (by decide) i 0
      have next : ∀ (x : Nat) o6 o7 o8 o9 o10, x = stlT m s what i → jv (e + 1) 329 125 [some (.ref 0), some (.int s), some (.int (nI what)), some (.long (lI (smN (stlT m s what) i) + lI x)), none, some (.int (nI i)), some (.int o6), o7, o8, o9, o10] [] (shR, J, L', pR) = some (some (.long (lI (stlS m s what))), (shR, J, L', pR)) := by
        intro x o6 o7 o8 o9 o10 hx
        rw [B329_125, show nI i + 1 = nI (i + 1) from nI_add i 1, lI_add, hx, show ((smN (stlT m s what) i : Nat) : Int) + ((stlT m s what i : Nat) : Int) = ((smN (stlT m s what) (i + 1) : Nat) : Int) from (Int.natCast_add _ _).symm]
        exact ih (i + 1) _ _ _ _ _ (by omega)
      have skip : ∀ o6 o7 o8 o9 o10, stlT m s what i = 0 → jv (e + 1) 329 125 [some (.ref 0), some (.int s), some (.int (nI what)), some (.long (lI (smN (stlT m s what) i))), none, some (.int (nI i)), some (.int o6), o7, o8, o9, o10] [] (shR, J, L', pR) = some (some (.long (lI (stlS m s what))), (shR, J, L', pR)) := by
        intro o6 o7 o8 o9 o10 hx
        have := next 0 o6 o7 o8 o9 o10 hx.symm
        rw [lI_add, show ((smN (stlT m s what) i : Nat) : Int) + ((0 : Nat) : Int) = ((smN (stlT m s what) i : Nat) : Int) by omega] at this
        exact this
      have a64 : (m (480 + i * 5)).toInt64 = lI (mN m (480 + i * 5)) := (congrArg Int32.toInt64 a0).trans (nI64 (by omega))
      have h64 : (m (480 + i * 5 + 3)).toInt64 = lI (mN m (480 + i * 5 + 3)) := (congrArg Int32.toInt64 h0).trans (nI64 (by omega))
      have w64 : (m (480 + i * 5 + 4)).toInt64 = lI (mN m (480 + i * 5 + 4)) := (congrArg Int32.toInt64 w0).trans (nI64 (by omega))
      have z0 : ¬ (0 : Int32) < m (480 + i * 5) ↔ m (480 + i * 5) = 0 := by
        constructor
        · intro z
          by_cases y : mN m (480 + i * 5) = 0
          · rw [a0, y]; rfl
          · exact absurd (show (0 : Int32) < m (480 + i * 5) by rw [a0]; exact nI_lt (a := 0) (by omega) (by omega)) z
        · intro z; rw [z]; decide
      have j0 : j_in (nI (480 + i * 5)) 1189 = true := j_in_nI (by omega) (by decide)
      have jj : ∀ c, c < 5 → j_in (nI (480 + i * 5 + c)) 1189 = true := fun c hc => j_in_nI (by omega) (by decide)
      have p1 : nI (480 + i * 5) + 1 = nI (480 + i * 5 + 1) := nI_add _ 1
      have p2 : nI (480 + i * 5) + 2 = nI (480 + i * 5 + 2) := nI_add _ 2
      have p3 : nI (480 + i * 5) + 3 = nI (480 + i * 5 + 3) := nI_add _ 3
      have p4 : nI (480 + i * 5) + 4 = nI (480 + i * 5 + 4) := nI_add _ 4
      rw [B329_5, if_pos (show nI i < (24 : Int32) from nI_lt (b := 24) (by omega) (by decide)), jgo_some (d := e) rfl g0]
      dsimp only [Option.toList_some, Option.toList_none, List.cons_append, List.nil_append]
      rw [B329_21, if_pos j0, p1, p2, p3, p4, nI_clamp (n := 480 + i * 5) (by omega), nI_clamp (n := 480 + i * 5 + 1) (by omega), nI_clamp (n := 480 + i * 5 + 2) (by omega), nI_clamp (n := 480 + i * 5 + 3) (by omega), nI_clamp (n := 480 + i * 5 + 4) (by omega), h.2.1 _ (show 480 + i * 5 < 1189 by omega), h.2.1 _ (show 480 + i * 5 + 1 < 1189 by omega), h.2.1 _ (show 480 + i * 5 + 2 < 1189 by omega), h.2.1 _ (show 480 + i * 5 + 3 < 1189 by omega), h.2.1 _ (show 480 + i * 5 + 4 < 1189 by omega)]
      by_cases c1 : m (480 + i * 5) = 0
      · rw [if_neg (z0.mpr c1)]
        exact skip _ _ _ _ _ (if_pos (Or.inl c1))
      rw [if_pos (Classical.byContradiction (fun y => c1 (z0.mp y))), if_pos (jj 1 (by decide))]
      by_cases c2 : s < m (480 + i * 5 + 1)
      · rw [if_pos c2]
        exact skip _ _ _ _ _ (if_pos (Or.inr (Or.inl c2)))
      rw [if_neg c2, if_pos (jj 2 (by decide))]
      by_cases c3 : m (480 + i * 5 + 2) < s
      · rw [if_pos c3]
        exact skip _ _ _ _ _ (if_pos (Or.inr (Or.inr c3)))
      rw [if_neg c3, if_pos j0, if_pos (jj 3 (by decide)), a64, h64, w64]
      have ng : ¬ (m (480 + i * 5) = 0 ∨ s < m (480 + i * 5 + 1) ∨ m (480 + i * 5 + 2) < s) := fun y => by rcases y with y | y | y; exact c1 y; exact c2 y; exact c3 y
      rcases (show what = 0 ∨ what = 1 ∨ what = 2 by omega) with y | y | y
      · rw [if_pos (by rw [y]; rfl), B329_123]
        exact next _ _ _ _ _ _ (by unfold stlT; rw [if_neg ng, if_pos y])
      · rw [if_neg (show ¬ nI what = 0 by rw [y]; decide), if_pos (by rw [y]; rfl), B329_123, lI_mul, ← Int.natCast_mul]
        exact next _ _ _ _ _ _ (by unfold stlT; rw [if_neg ng, if_neg (by omega), if_pos y])
      · rw [if_neg (show ¬ nI what = 0 by rw [y]; decide), if_neg (show ¬ nI what = 1 by rw [y]; decide), if_pos (jj 4 (by decide)), B329_123, lI_mul, lI_mul, lI_add (_ * _), ← Int.natCast_mul, ← Int.natCast_mul, ← Int.natCast_add]
        exact next _ _ _ _ _ _ (by unfold stlT; rw [if_neg ng, if_neg (by omega), if_neg (by omega)])
  rw [B329_0]
  exact loop 24 0 none none none none none rfl
end EVAV
