/-! PLATES: whole longs, and where one lies in the reference -/
def lgN (n : Nat) : Int64 := Int64.ofNat n
theorem lgN_add (a b : Nat) : lgN a + lgN b = lgN (a + b) := by unfold lgN; rw [Int64.ofNat_add]
theorem lgN_mul (a b : Nat) : lgN a * lgN b = lgN (a * b) := by unfold lgN; rw [Int64.ofNat_mul]
theorem l_bm {n : Nat} (h : n < 2 ^ 63) : ((n : Int)).bmod (2 ^ 64) = n := by
  rw [Int.bmod_def]
  split <;> omega
theorem lgN_toInt {n : Nat} (h : n < 2 ^ 63) : (lgN n).toInt = n := by
  unfold lgN
  rw [Int64.toInt_ofNat']
  exact l_bm h
theorem lgN_lt {a b : Nat} (ha : a < 2 ^ 63) (hb : b < 2 ^ 63) : lgN a < lgN b ↔ a < b := by
  rw [Int64.lt_iff_toInt_lt, lgN_toInt ha, lgN_toInt hb]
  omega
theorem lgN_eq {a b : Nat} (ha : a < 2 ^ 63) (hb : b < 2 ^ 63) : lgN a = lgN b ↔ a = b := by
  rw [← Int64.toInt_inj, lgN_toInt ha, lgN_toInt hb]
  omega
theorem lgN_div {a b : Nat} (ha : a < 2 ^ 63) (hb : b < 2 ^ 63) : lgN a / lgN b = lgN (a / b) := by
  have h1 : a / b < 2 ^ 63 := Nat.lt_of_le_of_lt (Nat.div_le_self a b) ha
  apply Int64.toInt_inj.mp
  rw [Int64.toInt_div, lgN_toInt ha, lgN_toInt hb, lgN_toInt h1, ← Int.ofNat_tdiv]
  exact l_bm h1
theorem lgN_sub {a b : Nat} (h : b ≤ a) : lgN a - lgN b = lgN (a - b) := by
  have h1 : lgN (a - b) + lgN b = lgN a := by rw [lgN_add, Nat.sub_add_cancel h]
  rw [← h1, Int64.add_sub_cancel]
theorem lgN_mod {a b : Nat} (ha : a < 2 ^ 63) (hb : b < 2 ^ 63) : lgN a - lgN a / lgN b * lgN b = lgN (a % b) := by
  rw [lgN_div ha hb, lgN_mul, lgN_sub (Nat.div_mul_le_self a b)]
  congr 1
  have := Nat.div_add_mod a b
  rw [Nat.mul_comm] at this
  omega
theorem lgN_I : ∀ n, n < 64 → (nI n).toInt64 = lgN n := by decide +kernel
theorem lgN_i {n : Nat} (h : n < 2 ^ 31) : (lgN n).toInt32 = nI n := by
  apply Int32.toInt_inj.mp
  rw [Int64.toInt_toInt32, lgN_toInt (by omega), nI_toInt h]
  exact i_bm h
theorem lcmp_lt {a b : Nat} (ha : a < 2 ^ 63) (hb : b < 2 ^ 63) : lg_cmp (lgN a) (lgN b) < 0 ↔ a < b := by
  unfold lg_cmp
  by_cases h1 : lgN a > lgN b
  · rw [if_pos h1]
    have := (lgN_lt hb ha).mp h1
    constructor
    · intro q; exact absurd q (by decide)
    · intro q; omega
  · rw [if_neg h1]
    have h2 : ¬ b < a := fun q => h1 ((lgN_lt hb ha).mpr q)
    by_cases h3 : lgN a = lgN b
    · rw [if_pos h3]
      have := (lgN_eq ha hb).mp h3
      constructor
      · intro q; exact absurd q (by decide)
      · intro q; omega
    · rw [if_neg h3]
      have h4 : ¬ a = b := fun q => h3 (by rw [q])
      constructor
      · intro _; omega
      · intro _; decide
section NEST2
variable {d e : Nat} {I J : Nat → Nat → Int32} {L L' : Nat → Nat → Int64} {pa pb pu pw : Option Nat} {w h W H : Nat} {nr : Nat → Nat → Nat → Prop} {pl : Nat → Nat → Prop}
theorem lies_r (G : plIn pl W H) {t : Nat} (C : celR pl W H t J) (B : barR nr J) (hr : rCst J) (e4 : J 6 4 = nI w) (e5 : J 6 5 = nI h) (hw : w ≤ 64) (hh : h ≤ 48) {s x y : Nat} (hs : s < 6) (ht : t < 4) (hx : x < w) (hy : y < h) : (fitP w h nr pl W H s x y t → jv (e + 1) 333 0 [some (.ref 0), some (.int (nI s)), some (.int (nI x)), some (.int (nI y)), none, none, none, none, none] [] (shR, J, L', pR) = some (some (.int 1), (shR, J, L', pR))) ∧ (¬ fitP w h nr pl W H s x y t → jv (e + 1) 333 0 [some (.ref 0), some (.int (nI s)), some (.int (nI x)), some (.int (nI y)), none, none, none, none, none] [] (shR, J, L', pR) = some (some (.int 0), (shR, J, L', pR))) := by
  obtain ⟨n, hn, c0, cx, cy, c1, c2⟩ := C
  obtain ⟨m1, m2⟩ := wd_le (t := t) G
  have key : ∀ m k, k + m = n → ∀ o7 o8 : Option Value, ((∀ k', k ≤ k' → k' < n → x + cx k' < w ∧ y + cy k' < h ∧ ¬ nr s (x + cx k') (y + cy k')) → jv (e + 1) 333 31 [some (.ref 0), some (.int (nI s)), some (.int (nI x)), some (.int (nI y)), some (.int (nI w)), some (.int (nI h)), some (.int (nI k)), o7, o8] [] (shR, J, L', pR) = some (some (.int 1), (shR, J, L', pR))) ∧ (¬ (∀ k', k ≤ k' → k' < n → x + cx k' < w ∧ y + cy k' < h ∧ ¬ nr s (x + cx k') (y + cy k')) → jv (e + 1) 333 31 [some (.ref 0), some (.int (nI s)), some (.int (nI x)), some (.int (nI y)), some (.int (nI w)), some (.int (nI h)), some (.int (nI k)), o7, o8] [] (shR, J, L', pR) = some (some (.int 0), (shR, J, L', pR))) := by
    intro m
    induction m with
    | zero =>
      intro k hk o7 o8
      refine ⟨fun _ => ?_, fun q => absurd (fun k' a b => by omega) q⟩
      rw [B333_31, c0, if_neg (nI_nlt (by omega) (by omega)), if_pos (by decide)]
    | succ m ih =>
      intro k hk o7 o8
      obtain ⟨d1, d2, i, j, hp, d3, d4⟩ := c1 k (by omega)
      obtain ⟨l1, l2⟩ := tn_lt G ht hp
      rw [← d3] at l1
      rw [← d4] at l2
      rw [B333_31, c0, if_pos (nI_lt (show k < n by omega) (by omega)), if_pos (j_in_nI (by omega) (by decide)), if_pos (j_in_nI (by omega) (by decide)), nI_clamp (n := k) (by omega), d1, d2, nI_add, nI_add, nI_1 k]
      have no : ¬ (x + cx k < w ∧ y + cy k < h ∧ ¬ nr s (x + cx k) (y + cy k)) → ¬ (∀ k', k ≤ k' → k' < n → x + cx k' < w ∧ y + cy k' < h ∧ ¬ nr s (x + cx k') (y + cy k')) := fun q z => q (z k (Nat.le_refl _) (by omega))
      have out : ∀ o7 o8 : Int32, jv (e + 1) 333 98 [some (.ref 0), some (.int (nI s)), some (.int (nI x)), some (.int (nI y)), some (.int (nI w)), some (.int (nI h)), some (.int (nI k)), some (.int o7), some (.int o8)] [] (shR, J, L', pR) = some (some (.int 0), (shR, J, L', pR)) := fun o7 o8 => by rw [B333_98, if_pos (by decide)]
      by_cases a1 : x + cx k < w
      · rw [if_pos (nI_lt a1 (by omega))]
        by_cases a2 : y + cy k < h
        · have e1 : 3072 * nI s + 64 * nI (y + cy k) + nI (x + cx k) = nI (3072 * s + 64 * (y + cy k) + (x + cx k)) := by
            rw [show 3072 * nI s = nI (3072 * s) from nI_mul 3072 s, show 64 * nI (y + cy k) = nI (64 * (y + cy k)) from nI_mul 64 _, nI_add, nI_add]
          have hb := B s hs (y + cy k) (by omega) (x + cx k) (by omega)
          rw [if_pos (nI_lt a2 (by omega)), e1, if_pos (j_in_nI (by omega) (by decide)), nI_clamp (by omega)]
          by_cases a3 : nr s (x + cx k) (y + cy k)
          · rw [if_neg (fun z => hb.mp z a3), out]
            exact ⟨fun q => absurd a3 (q k (Nat.le_refl _) (by omega)).2.2, fun _ => rfl⟩
          · rw [if_pos (hb.mpr a3)]
            obtain ⟨i1, i2⟩ := ih (k + 1) (by omega) (some (.int (nI (x + cx k)))) (some (.int (nI (y + cy k))))
            refine ⟨fun q => i1 (fun k' a b => q k' (by omega) b), fun q => i2 (fun z => q (fun k' a b => ?_))⟩
            by_cases ek : k' = k
            · rw [ek]; exact ⟨a1, a2, a3⟩
            · exact z k' (by omega) b
        · rw [if_neg (nI_nlt (by omega) (by omega)), out]
          exact ⟨fun q => absurd (q k (Nat.le_refl _) (by omega)).2.1 a2, fun _ => rfl⟩
      · rw [if_neg (nI_nlt (by omega) (by omega)), out]
        exact ⟨fun q => absurd (q k (Nat.le_refl _) (by omega)).1 a1, fun _ => rfl⟩
  rw [B333_0, g_at_0_4 hr]
  dsimp only [Option.toList_some, List.cons_append, List.nil_append]
  rw [B333_11, if_pos (j_in_nI (by decide) (by decide)), nI_clamp (n := 4) (by decide), e4, g_at_0_5 hr]
  dsimp only [Option.toList_some, List.cons_append, List.nil_append]
  rw [B333_25, if_pos (j_in_nI (by decide) (by decide)), nI_clamp (n := 5) (by decide), e5]
  obtain ⟨k1, k2⟩ := key n 0 (by omega) none none
  have hiff : (∀ k', 0 ≤ k' → k' < n → x + cx k' < w ∧ y + cy k' < h ∧ ¬ nr s (x + cx k') (y + cy k')) ↔ fitP w h nr pl W H s x y t := by
    constructor
    · intro q i j hp
      obtain ⟨k, hk, g1, g2⟩ := c2 i j hp
      rw [← g1, ← g2]
      exact q k (Nat.zero_le _) hk
    · intro q k _ hk
      obtain ⟨-, -, i, j, hp, g1, g2⟩ := c1 k hk
      rw [g1, g2]
      exact q i j hp
  exact ⟨fun q => k1 (hiff.mpr q), fun q => k2 (fun z => q (hiff.mp z))⟩
end NEST2
