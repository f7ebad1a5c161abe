/-! SEA: runs of a column, second one -/
section SEAM
variable {e : Nat} {J : Nat → Nat → Int32} {L : Nat → Nat → Int64}
/-- the runs of column i: from lo to hi, F is the same on each -/
def rnC (J : Nat → Nat → Int32) (f : Nat → Nat) (x x' bb : Nat → Int) (i : Nat) (lo hi : Int) (F : Int → Int) : Prop := J 44 i = nI (f i) ∧ J 44 (i + 1) = nI (f (i + 1)) ∧ f i ≤ f (i + 1) ∧ f (i + 1) ≤ 8500 ∧ (∀ j, f i ≤ j → j < f (i + 1) → J 45 j = vI (x j) ∧ J 46 j = vI (x' j) ∧ J 47 j = vI (bb j) ∧ x j < x' j ∧ 0 ≤ x j ∧ x' j ≤ hi ∧ -100 ≤ bb j ∧ bb j ≤ 100 ∧ (∀ y, x j ≤ y → y < x' j → F y = bb j) ∧ (j + 1 < f (i + 1) → x (j + 1) = x' j) ∧ (j + 1 = f (i + 1) → x' j = hi)) ∧ (f i < f (i + 1) → x (f i) = lo) ∧ (f i = f (i + 1) → hi ≤ lo) ∧ hi ≤ 128000
/-- the amount of a column -/
theorem acol_r {f : Nat → Nat} {x x' bb : Nat → Int} {s k : Nat} {lo hi : Int} {F : Int → Int} (hs : s < 16) (hk : k < 16) (hC : rnC J f x x' bb (16 * s + k) lo hi F) {l1 l2 l3 : Int32} {pl : Int} (h1 : -300000 ≤ pl) (h2 : pl ≤ 300000) : ∀ (r j : Nat) (A : Int), f (16 * s + k) ≤ j → j + r = f (16 * s + k + 1) → ∃ o9 : Int32, jv e 302 61 [some (.ref 0), some (.int l1), some (.int l2), some (.int l3), some (.long (lI A)), none, some (.int (nI s)), some (.int (nI k)), some (.int (vI pl)), some (.int (nI j))] [] (shR, J, L, pR) = jv e 302 146 [some (.ref 0), some (.int l1), some (.int l2), some (.int l3), some (.long (lI (A + (if r = 0 then 0 else sR F (x j) (if pl < hi then pl else hi))))), none, some (.int (nI s)), some (.int (nI k)), some (.int (vI pl)), some (.int o9)] [] (shR, J, L, pR) := by
  obtain ⟨c1, c2, c3, c4, c5, c6, c7, c8⟩ := hC
  have ei : ((16 : Int32) * nI s + nI k) + 1 = nI (16 * s + k + 1) := by rw [show (16 : Int32) = nI 16 from rfl, nI_mul, nI_add]; exact nI_add _ 1
  have ji : j_in (nI (16 * s + k + 1)) 257 = true := j_in_nI (by omega) (by decide)
  have ci : (nI (16 * s + k + 1)).toNatClampNeg = 16 * s + k + 1 := nI_clamp (by omega)
  intro r
  induction r with
  | zero =>
    intro j A hj hr
    refine ⟨nI j, ?_⟩
    rw [B302_61, ei, if_pos ji, ci, c2, if_neg (nI_nlt (by omega) (by omega)), if_pos rfl, Int.add_zero]
  | succ r ih =>
    intro j A hj hr
    obtain ⟨d1, d2, d3, d4, d5, d6, d7, d8, d9, d10, d11⟩ := c5 j hj (by omega)
    have jj : j_in (nI j) 9000 = true := j_in_nI (by omega) (by decide)
    have cj : (nI j).toNatClampNeg = j := nI_clamp (by omega)
    rw [B302_61, ei, if_pos ji, ci, c2, if_pos (nI_lt (by omega) (by omega)), if_pos jj, cj, d1]
    by_cases g : x j < pl
    case neg =>
      refine ⟨nI j, ?_⟩
      rw [if_neg (fun w => g ((vI_lt (by omega) (by omega) (by omega) (by omega)).mp w)), if_neg (Nat.succ_ne_zero r), sR_nil (show (if pl < hi then pl else hi) ≤ x j by split <;> omega), Int.add_zero]
    rw [if_pos ((vI_lt (by omega) (by omega) (by omega) (by omega)).mpr g), if_pos jj, d2]
    -- one run
    have one : ∀ u : Int, u = (if x' j < pl then x' j else pl) → ∃ o9 : Int32, jv e 302 119 [some (.ref 0), some (.int l1), some (.int l2), some (.int l3), some (.long (lI A)), none, some (.int (nI s)), some (.int (nI k)), some (.int (vI pl)), some (.int (nI j))] [.int (vI u), .long (lI A)] (shR, J, L, pR) = jv e 302 146 [some (.ref 0), some (.int l1), some (.int l2), some (.int l3), some (.long (lI (A + (if r + 1 = 0 then 0 else sR F (x j) (if pl < hi then pl else hi))))), none, some (.int (nI s)), some (.int (nI k)), some (.int (vI pl)), some (.int o9)] [] (shR, J, L, pR) := by
      intro u hu
      have ub : x j ≤ u ∧ u ≤ x' j ∧ u ≤ pl ∧ (u = x' j ∨ u = pl) := by rw [hu]; split <;> omega
      have b64 : (vI (bb j)).toInt64 = lI (bb j) := vI_64 (by omega) (by omega)
      obtain ⟨o9, n1⟩ := ih (j + 1) (A + (u - x j) * bb j) (by omega) (by omega)
      refine ⟨o9, ?_⟩
      rw [B302_119, if_pos jj, if_pos jj, cj, d1, d3, vI_sub, vI_64 (by omega) (by omega), b64, lI_mul, lI_add, show nI j + 1 = nI (j + 1) from nI_add j 1, n1]
      have piece : sR F (x j) u = (u - x j) * bb j := by
        rw [sR_congr (g := fun _ => bb j) (fun y y1 y2 => d9 y y1 (by omega)), sR_const ub.1, Int.mul_comm]
      have rest : sR F (x j) (if pl < hi then pl else hi) = (u - x j) * bb j + (if r = 0 then 0 else sR F (x (j + 1)) (if pl < hi then pl else hi)) := by
        have ule : u ≤ (if pl < hi then pl else hi) := by split <;> omega
        rw [sR_split (b := u) ub.1 ule, piece]
        congr 1
        by_cases z : r = 0
        · rw [if_pos z]
          have := d11 (by omega)
          exact sR_nil (by rcases ub.2.2.2 with w | w <;> split <;> omega)
        · rw [if_neg z, d10 (by omega)]
          rcases ub.2.2.2 with w | w
          · rw [w]
          · rw [sR_nil (show (if pl < hi then pl else hi) ≤ u by split <;> omega), sR_nil (show (if pl < hi then pl else hi) ≤ x' j by split <;> omega)]
      rw [if_neg (Nat.succ_ne_zero r), rest, Int.add_assoc]
    by_cases g2 : x' j < pl
    · rw [if_pos ((vI_lt (by omega) (by omega) (by omega) (by omega)).mpr g2), if_pos jj]
      exact one (x' j) (by rw [if_pos g2])
    · rw [if_neg (fun w => g2 ((vI_lt (by omega) (by omega) (by omega) (by omega)).mp w))]
      exact one pl (by rw [if_neg g2])
end SEAM
