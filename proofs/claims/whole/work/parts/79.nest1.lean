/-! PLATES: where one lies, in both -/
def plIn (pl : Nat → Nat → Prop) (W H : Nat) : Prop := W < 24 ∧ H < 12 ∧ (∀ i j, pl i j → i ≤ W ∧ j ≤ H) ∧ (∃ j, pl W j) ∧ (∃ i, pl i H) ∧ (∃ j, pl 0 j) ∧ ∃ i, pl i 0
def tnX (W H t i j : Nat) : Nat := if t = 0 then i else if t = 1 then H - j else if t = 2 then W - i else j
def tnY (W H t i j : Nat) : Nat := if t = 0 then j else if t = 1 then i else if t = 2 then H - j else W - i
def wdN (W H t : Nat) : Nat := if t % 2 = 0 then W + 1 else H + 1
def tlN (W H t : Nat) : Nat := if t % 2 = 0 then H + 1 else W + 1
theorem tn_lt {pl : Nat → Nat → Prop} {W H t i j : Nat} (G : plIn pl W H) (ht : t < 4) (hp : pl i j) : tnX W H t i j < wdN W H t ∧ tnY W H t i j < tlN W H t := by
  obtain ⟨h1, h2⟩ := G.2.2.1 i j hp
  unfold tnX tnY wdN tlN
  rcases (show t = 0 ∨ t = 1 ∨ t = 2 ∨ t = 3 by omega) with rfl | rfl | rfl | rfl <;> simp <;> omega
theorem wd_le {pl : Nat → Nat → Prop} {W H t : Nat} (G : plIn pl W H) : wdN W H t ≤ 24 ∧ tlN W H t ≤ 24 := by
  obtain ⟨h1, h2, -⟩ := G
  unfold wdN tlN
  constructor <;> split <;> omega
theorem tn_mx {pl : Nat → Nat → Prop} {W H t : Nat} (G : plIn pl W H) (ht : t < 4) : (∃ i j, pl i j ∧ tnX W H t i j + 1 = wdN W H t) ∧ ∃ i j, pl i j ∧ tnY W H t i j + 1 = tlN W H t := by
  obtain ⟨-, -, -, ⟨j, hj⟩, ⟨i, hi⟩, ⟨j0, hj0⟩, ⟨i0, hi0⟩⟩ := G
  rcases (show t = 0 ∨ t = 1 ∨ t = 2 ∨ t = 3 by omega) with rfl | rfl | rfl | rfl
  · exact ⟨⟨W, j, hj, rfl⟩, ⟨i, H, hi, rfl⟩⟩
  · exact ⟨⟨i0, 0, hi0, rfl⟩, ⟨W, j, hj, rfl⟩⟩
  · exact ⟨⟨0, j0, hj0, rfl⟩, ⟨i0, 0, hi0, rfl⟩⟩
  · exact ⟨⟨i, H, hi, rfl⟩, ⟨0, j0, hj0, rfl⟩⟩
/-- the plate at hand in the class -/
def shpC (pl : Nat → Nat → Prop) (W H : Nat) (I : Nat → Nat → Int32) (L : Nat → Nat → Int64) : Prop := ∀ t, t < 4 → I 92 t = nI (wdN W H t) ∧ I 93 t = nI (tlN W H t) ∧ ∀ r, r < 24 → ∀ u, lbit u (L 91 (24 * t + r)) ↔ ∃ i j, pl i j ∧ tnX W H t i j = u ∧ tnY W H t i j = r
/-- and in the reference, turned t times -/
def celR (pl : Nat → Nat → Prop) (W H t : Nat) (J : Nat → Nat → Int32) : Prop := ∃ n, n ≤ 288 ∧ J 0 99 = nI n ∧ ∃ cx cy : Nat → Nat, (∀ k, k < n → J 55 k = nI (cx k) ∧ J 56 k = nI (cy k) ∧ ∃ i j, pl i j ∧ cx k = tnX W H t i j ∧ cy k = tnY W H t i j) ∧ ∀ i j, pl i j → ∃ k, k < n ∧ cx k = tnX W H t i j ∧ cy k = tnY W H t i j
def barC (nr : Nat → Nat → Nat → Prop) (L : Nat → Nat → Int64) : Prop := ∀ s, s < 6 → ∀ y, y < 48 → ∀ u, u < 64 → (lbit u (L 89 (48 * s + y)) ↔ nr s u y)
def barR (nr : Nat → Nat → Nat → Prop) (J : Nat → Nat → Int32) : Prop := ∀ s, s < 6 → ∀ y, y < 48 → ∀ x, x < 64 → (J 54 (3072 * s + 64 * y + x) = 0 ↔ ¬ nr s x y)
def fitP (w h : Nat) (nr : Nat → Nat → Nat → Prop) (pl : Nat → Nat → Prop) (W H s x y t : Nat) : Prop := ∀ i j, pl i j → x + tnX W H t i j < w ∧ y + tnY W H t i j < h ∧ ¬ nr s (x + tnX W H t i j) (y + tnY W H t i j)
section NEST1
variable {d e : Nat} {I J : Nat → Nat → Int32} {L L' : Nat → Nat → Int64} {pa pb pu pw : Option Nat} {w h W H : Nat} {nr : Nat → Nat → Nat → Prop} {pl : Nat → Nat → Prop}
def freeR (L : Nat → Nat → Int64) (s x y t r : Nat) : Prop := ∀ u, ¬ (lbit u ((L 91 (24 * t + r)) <<< ((nI x).toInt64 &&& 63)) ∧ lbit u (L 89 (48 * s + y + r)))
theorem fits_loop (G : plIn pl W H) (S : shpC pl W H I L) {s x y t : Nat} (hs : s < 6) (ht : t < 4) (hy : y + tlN W H t ≤ 48) : ∀ n r, r + n = tlN W H t → ((∀ r', r ≤ r' → r' < tlN W H t → freeR L s x y t r') → jv d 118 52 [some (.ref 83), some (.int (nI s)), some (.int (nI x)), some (.int (nI y)), some (.int (nI t)), some (.int (nI (48 * s + y))), some (.int (nI (24 * t))), some (.int (nI r))] [] (shC, I, L, pX pa pb pu pw) = some (some (.int 1), (shC, I, L, pX pa pb pu pw))) ∧ (¬ (∀ r', r ≤ r' → r' < tlN W H t → freeR L s x y t r') → jv d 118 52 [some (.ref 83), some (.int (nI s)), some (.int (nI x)), some (.int (nI y)), some (.int (nI t)), some (.int (nI (48 * s + y))), some (.int (nI (24 * t))), some (.int (nI r))] [] (shC, I, L, pX pa pb pu pw) = some (some (.int 0), (shC, I, L, pX pa pb pu pw))) := by
  have h24 := (wd_le (t := t) G).2
  intro n
  induction n with
  | zero =>
    intro r hr
    refine ⟨fun _ => ?_, fun q => absurd (fun r' a b => by omega) q⟩
    rw [B118_52, if_pos (j_in_nI ht (by decide)), nI_clamp (n := t) (by omega), (S t ht).2.1, if_neg (nI_nlt (by omega) (by omega)), if_pos (by decide)]
  | succ n ih =>
    intro r hr
    obtain ⟨i1, i2⟩ := ih (r + 1) (by omega)
    have k0 : jv d 118 52 [some (.ref 83), some (.int (nI s)), some (.int (nI x)), some (.int (nI y)), some (.int (nI t)), some (.int (nI (48 * s + y))), some (.int (nI (24 * t))), some (.int (nI r))] [] (shC, I, L, pX pa pb pu pw) = if lg_cmp ((L 91 (24 * t + r) <<< ((nI x).toInt64 &&& 63)) &&& L 89 (48 * s + y + r)) 0 = 0 then jv d 118 52 [some (.ref 83), some (.int (nI s)), some (.int (nI x)), some (.int (nI y)), some (.int (nI t)), some (.int (nI (48 * s + y))), some (.int (nI (24 * t))), some (.int (nI (r + 1)))] [] (shC, I, L, pX pa pb pu pw) else some (some (.int 0), (shC, I, L, pX pa pb pu pw)) := by
      rw [B118_52, if_pos (j_in_nI ht (by decide)), nI_clamp (n := t) (by omega), (S t ht).2.1, if_pos (nI_lt (by omega) (by omega)), nI_add, nI_add, if_pos (j_in_nI (by omega) (by decide)), if_pos (j_in_nI (by omega) (by decide)), nI_clamp (by omega), nI_clamp (by omega), nI_1 r, if_pos (show vp_nar .boolean 0 = 0 by decide)]
    have hc : lg_cmp ((L 91 (24 * t + r) <<< ((nI x).toInt64 &&& 63)) &&& L 89 (48 * s + y + r)) 0 = 0 ↔ freeR L s x y t r := by
      rw [lcmp_0, lbit_none]
      unfold freeR
      constructor
      · intro q u z; exact q u (lbit_and.mpr z)
      · intro q u z; exact q u (lbit_and.mp z)
    rw [k0]
    by_cases hf : freeR L s x y t r
    · rw [if_pos (hc.mpr hf)]
      refine ⟨fun q => i1 (fun r' a b => q r' (by omega) b), fun q => i2 (fun z => q (fun r' a b => ?_))⟩
      by_cases e : r' = r
      · rw [e]; exact hf
      · exact z r' (by omega) b
    · rw [if_neg (fun z => hf (hc.mp z))]
      exact ⟨fun q => absurd (q r (Nat.le_refl _) (by omega)) hf, fun _ => rfl⟩
theorem free_iff (G : plIn pl W H) (S : shpC pl W H I L) (B : barC nr L) {s x y t r : Nat} (hs : s < 6) (ht : t < 4) (hx : x + wdN W H t ≤ 64) (hy : y + tlN W H t ≤ 48) (hr : r < tlN W H t) : freeR L s x y t r ↔ ∀ i j, pl i j → tnY W H t i j = r → ¬ nr s (x + tnX W H t i j) (y + r) := by
  have h24 := (wd_le (t := t) G).2
  have hx64 : x < 64 := by
    have : 0 < wdN W H t := by unfold wdN; split <;> omega
    omega
  unfold freeR
  constructor
  · intro q i j hp hy' hn
    have hl := (tn_lt G ht hp).1
    refine q (x + tnX W H t i j) ⟨(lbit_shl hx64).mpr ⟨by omega, by omega, ?_⟩, ?_⟩
    · rw [((S t ht).2.2 r (by omega) _)]
      exact ⟨i, j, hp, by omega, hy'⟩
    · rw [Nat.add_assoc, B s hs (y + r) (by omega) _ (by omega)]
      exact hn
  · intro q u z
    obtain ⟨z1, z2⟩ := z
    obtain ⟨a1, a2, a3⟩ := (lbit_shl hx64).mp z1
    obtain ⟨i, j, hp, b1, b2⟩ := ((S t ht).2.2 r (by omega) _).mp a3
    rw [Nat.add_assoc, B s hs (y + r) (by omega) _ a1] at z2
    refine q i j hp b2 ?_
    rw [b1, show x + (u - x) = u by omega]
    exact z2
theorem fits_c (G : plIn pl W H) (S : shpC pl W H I L) (B : barC nr L) (e3 : I 83 3 = nI w) (e4 : I 83 4 = nI h) (hw : w ≤ 64) (hh : h ≤ 48) {s x y t : Nat} (hs : s < 6) (ht : t < 4) (hx : x < w) (hy : y < h) : (fitP w h nr pl W H s x y t → jv d 118 0 [some (.ref 83), some (.int (nI s)), some (.int (nI x)), some (.int (nI y)), some (.int (nI t)), none, none, none] [] (shC, I, L, pX pa pb pu pw) = some (some (.int 1), (shC, I, L, pX pa pb pu pw))) ∧ (¬ fitP w h nr pl W H s x y t → jv d 118 0 [some (.ref 83), some (.int (nI s)), some (.int (nI x)), some (.int (nI y)), some (.int (nI t)), none, none, none] [] (shC, I, L, pX pa pb pu pw) = some (some (.int 0), (shC, I, L, pX pa pb pu pw))) := by
  obtain ⟨m1, m2⟩ := wd_le (t := t) G
  obtain ⟨⟨i1, j1, p1, q1⟩, ⟨i2, j2, p2, q2⟩⟩ := tn_mx G ht
  rw [B118_0, if_pos (j_in_nI ht (by decide)), nI_clamp (n := t) (by omega), (S t ht).1, (S t ht).2.1, e3, e4, nI_add, nI_add]
  by_cases a1 : w < x + wdN W H t
  · rw [if_pos (nI_lt a1 (by omega)), B118_32, if_pos (show vp_nar .boolean 0 = 0 by decide)]
    refine ⟨fun q => ?_, fun _ => rfl⟩
    have := (q i1 j1 p1).1
    omega
  rw [if_neg (nI_nlt (by omega) (by omega)), if_pos (j_in_nI ht (by decide))]
  by_cases a2 : h < y + tlN W H t
  · rw [if_pos (nI_lt a2 (by omega)), B118_32, if_pos (show vp_nar .boolean 0 = 0 by decide)]
    refine ⟨fun q => ?_, fun _ => rfl⟩
    have := (q i2 j2 p2).2.1
    omega
  rw [if_neg (nI_nlt (by omega) (by omega))]
  have e1 : nI s * 48 + nI y = nI (48 * s + y) := by
    rw [show nI s * 48 = nI (s * 48) from nI_mul s 48, nI_add, Nat.mul_comm]
  have e2 : nI t * 24 = nI (24 * t) := by
    rw [show nI t * 24 = nI (t * 24) from nI_mul t 24, Nat.mul_comm]
  rw [e1, e2]
  obtain ⟨k1, k2⟩ := fits_loop (d := d) (pa := pa) (pb := pb) (pu := pu) (pw := pw) G S (x := x) (y := y) hs ht (by omega) (tlN W H t) 0 (by omega)
  have hiff : (∀ r', 0 ≤ r' → r' < tlN W H t → freeR L s x y t r') ↔ fitP w h nr pl W H s x y t := by
    constructor
    · intro q i j hp
      obtain ⟨l1, l2⟩ := tn_lt G ht hp
      exact ⟨by omega, by omega, (free_iff G S B hs ht (by omega) (by omega) l2).mp (q _ (Nat.zero_le _) l2) i j hp rfl⟩
    · intro q r' _ hr
      refine (free_iff G S B hs ht (by omega) (by omega) hr).mpr (fun i j hp e => ?_)
      rw [← e]
      exact (q i j hp).2.2
  exact ⟨fun q => k1 (hiff.mpr q), fun q => k2 (fun z => q (hiff.mp z))⟩
end NEST1
