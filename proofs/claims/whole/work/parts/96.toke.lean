/-! RULES: words as numbers, in both -/
section TOKE
variable {d e : Nat} {I J : Nat → Nat → Int32} {L L' : Nat → Nat → Int64} {pa pb pu pw : Option Nat} {m : Nat → Int32}
/-- a word's number to the base B, o below its letters -/
def nW (B o : Nat) (w : List Nat) : Nat := w.foldl (fun v b => v * B + (b - o)) 0
theorem nW_snoc (B o : Nat) (w : List Nat) (b : Nat) : nW B o (w ++ [b]) = nW B o w * B + (b - o) := by
  unfold nW; rw [List.foldl_append]; rfl
def bts (m : Nat → Int32) (p : Nat) : Nat → List Nat
  | 0 => []
  | l + 1 => bts m p l ++ [txB m (p + l)]
theorem bts_len (p l : Nat) : (bts m p l).length = l := by
  induction l with
  | zero => rfl
  | succ l ih => show (bts m p l ++ [txB m (p + l)]).length = _; rw [List.length_append, ih]; rfl
theorem bts_all {Q : Nat → Prop} {p : Nat} : ∀ l, (∀ j, j < l → Q (txB m (p + j))) → ∀ b, b ∈ bts m p l → Q b := by
  intro l
  induction l with
  | zero => intro _ b hb; exact absurd hb List.not_mem_nil
  | succ l ih =>
    intro h b hb
    rcases List.mem_append.mp hb with z | z
    · exact ih (fun j hj => h j (by omega)) b z
    · rw [List.mem_singleton.mp z]; exact h l (by omega)
/-- a word: letters alone, 1 to 8 -/
def okW (w : List Nat) : Prop := (∀ b, b ∈ w → isL b) ∧ 1 ≤ w.length ∧ w.length ≤ 8
def nC (w : List Nat) : Nat := nW 27 96 w
def nR (w : List Nat) : Nat := nW 256 0 w
theorem snoc_ex (w : List Nat) (h : w ≠ []) : ∃ u b, w = u ++ [b] := ⟨w.dropLast, w.getLast h, (List.dropLast_concat_getLast h).symm⟩
theorem nW_inj {B o : Nat} {Q : Nat → Prop} (hd : ∀ b, Q b → 0 < b - o ∧ b - o < B) (hi : ∀ b c, Q b → Q c → b - o = c - o → b = c) : ∀ (r : Nat) (u w : List Nat), u.length ≤ r → (∀ b, b ∈ u → Q b) → (∀ b, b ∈ w → Q b) → nW B o u = nW B o w → u = w := by
  intro r
  induction r with
  | zero =>
    intro u w hr hu hw he
    have u0 : u = [] := List.length_eq_zero_iff.mp (by omega)
    subst u0
    rcases Classical.em (w = []) with z | z
    · exact z.symm
    · obtain ⟨x, b, rfl⟩ := snoc_ex w z
      rw [nW_snoc] at he
      have := hd b (hw b (by simp))
      have h0 : nW B o [] = 0 := rfl
      omega
  | succ r ih =>
    intro u w hr hu hw he
    rcases Classical.em (u = []) with z | z
    · exact ih u w (by rw [z]; exact Nat.zero_le _) hu hw he
    rcases Classical.em (w = []) with z2 | z2
    · obtain ⟨x, b, rfl⟩ := snoc_ex u z
      rw [nW_snoc, z2] at he
      have := hd b (hu b (by simp))
      have h0 : nW B o [] = 0 := rfl
      omega
    obtain ⟨x, b, rfl⟩ := snoc_ex u z
    obtain ⟨y, c, rfl⟩ := snoc_ex w z2
    rw [nW_snoc, nW_snoc] at he
    have hb := hd b (hu b (by simp))
    have hc := hd c (hw c (by simp))
    have e1 : b - o = c - o := by
      have := congrArg (· % B) he
      simp only [Nat.mul_add_mod_self_right, Nat.mod_eq_of_lt hb.2, Nat.mod_eq_of_lt hc.2] at this
      exact this
    have e2 : nW B o x = nW B o y := by
      rw [e1] at he
      exact Nat.eq_of_mul_eq_mul_right (by omega) (Nat.add_right_cancel he)
    rw [hi b c (hu b (by simp)) (hw c (by simp)) e1, ih x y (by rw [List.length_append] at hr; simp at hr; omega) (fun q hq => hu q (by simp [hq])) (fun q hq => hw q (by simp [hq])) e2]
theorem nC_lt : ∀ (r : Nat) (w : List Nat), w.length = r → (∀ b, b ∈ w → isL b) → nC w < 27 ^ r := by
  intro r
  induction r with
  | zero => intro w h _; have u0 : w = [] := List.length_eq_zero_iff.mp h; subst u0; decide
  | succ r ih =>
    intro w h hw
    obtain ⟨x, b, rfl⟩ := snoc_ex w (fun z => by rw [z] at h; exact absurd h (by simp))
    have h1 := ih x (by rw [List.length_append] at h; simp at h; omega) (fun q hq => hw q (by simp [hq]))
    have h2 := hw b (by simp)
    unfold nC at h1 ⊢
    rw [nW_snoc, Nat.pow_succ]
    unfold isL at h2
    omega
theorem nR_lt : ∀ (r : Nat) (w : List Nat), w.length = r → (∀ b, b ∈ w → isL b) → 2 * nR w + 1 ≤ 256 ^ r := by
  intro r
  induction r with
  | zero => intro w h _; have u0 : w = [] := List.length_eq_zero_iff.mp h; subst u0; decide
  | succ r ih =>
    intro w h hw
    obtain ⟨x, b, rfl⟩ := snoc_ex w (fun z => by rw [z] at h; exact absurd h (by simp))
    have h1 := ih x (by rw [List.length_append] at h; simp at h; omega) (fun q hq => hw q (by simp [hq]))
    have h2 := hw b (by simp)
    unfold nR at h1 ⊢
    rw [nW_snoc, Nat.pow_succ]
    unfold isL at h2
    omega
theorem okW.c {w : List Nat} (h : okW w) : nC w < 2 ^ 63 := Nat.lt_of_lt_of_le (nC_lt _ w rfl h.1) (Nat.le_trans (Nat.pow_le_pow_right (by decide) h.2.2) (by decide))
theorem okW.r {w : List Nat} (h : okW w) : nR w < 2 ^ 63 := by
  have h1 := nR_lt _ w rfl h.1
  have h2 : 256 ^ w.length ≤ 256 ^ 8 := Nat.pow_le_pow_right (by decide) h.2.2
  have h3 : (256 : Nat) ^ 8 = 2 ^ 64 := by decide
  omega
theorem wC_inj {u w : List Nat} (hu : okW u) (hw : okW w) : lgN (nC u) = lgN (nC w) ↔ u = w := by
  rw [lgN_eq hu.c hw.c]
  refine ⟨fun z => ?_, fun z => by rw [z]⟩
  exact nW_inj (Q := isL) (fun b hb => by unfold isL at hb; omega) (fun b c hb hc he => by unfold isL at hb hc; omega) _ u w (Nat.le_refl _) hu.1 hw.1 z
theorem wR_inj {u w : List Nat} (hu : okW u) (hw : okW w) : lgN (nR u) = lgN (nR w) ↔ u = w := by
  rw [lgN_eq hu.r hw.r]
  refine ⟨fun z => ?_, fun z => by rw [z]⟩
  exact nW_inj (Q := isL) (fun b hb => by unfold isL at hb; omega) (fun b c hb hc he => by unfold isL at hb hc; omega) _ u w (Nat.le_refl _) hu.1 hw.1 z
theorem lgN_b : ∀ b, b < 256 → (nI b).toInt64 = lgN b := by decide +kernel
theorem vC_eq {p : Nat} : ∀ l, (∀ j, j < l → isL (txB m (p + j))) → vC m p l = lgN (nC (bts m p l)) := by
  intro l
  induction l with
  | zero => intro _; rfl
  | succ l ih =>
    intro h
    have hb := (txB_eq m (p + l)).2
    have h1 := h l (by omega)
    show vC m p l * 27 + (nI (txB m (p + l))).toInt64 - 97 + 1 = lgN (nW 27 96 (bts m p l ++ [txB m (p + l)]))
    rw [ih (fun j hj => h j (by omega)), lgN_b _ hb, nW_snoc, show (27 : Int64) = lgN 27 from rfl, lgN_mul, lgN_add, show (97 : Int64) = lgN 97 from rfl, lgN_sub (by unfold isL at h1; omega), show (1 : Int64) = lgN 1 from rfl, lgN_add]
    congr 1
    unfold nC
    unfold isL at h1
    omega
theorem vN_eq {p : Nat} : ∀ l, (∀ j, j < l → isD (txB m (p + j))) → vN m p l = lgN (nW 10 48 (bts m p l)) := by
  intro l
  induction l with
  | zero => intro _; rfl
  | succ l ih =>
    intro h
    have hb := (txB_eq m (p + l)).2
    have h1 := h l (by omega)
    show vN m p l * 10 + (nI (txB m (p + l))).toInt64 - 48 = lgN (nW 10 48 (bts m p l ++ [txB m (p + l)]))
    rw [ih (fun j hj => h j (by omega)), lgN_b _ hb, nW_snoc, show (10 : Int64) = lgN 10 from rfl, lgN_mul, lgN_add, show (48 : Int64) = lgN 48 from rfl, lgN_sub (by unfold isD at h1; omega)]
    congr 1
    unfold isD at h1
    omega
theorem nN_lt : ∀ (r : Nat) (w : List Nat), w.length = r → (∀ b, b ∈ w → isD b) → nW 10 48 w < 10 ^ r := by
  intro r
  induction r with
  | zero => intro w h _; have u0 : w = [] := List.length_eq_zero_iff.mp h; subst u0; decide
  | succ r ih =>
    intro w h hw
    obtain ⟨x, b, rfl⟩ := snoc_ex w (fun z => by rw [z] at h; exact absurd h (by simp))
    have h1 := ih x (by rw [List.length_append] at h; simp at h; omega) (fun q hq => hw q (by simp [hq]))
    have h2 := hw b (by simp)
    rw [nW_snoc, Nat.pow_succ]
    unfold isD at h2
    omega
theorem sh8 {a b : Nat} (ha : a < 2 ^ 55) (hb : b < 256) : (lgN a <<< ((8 : Int32).toInt64 &&& 63)) ||| lgN b = lgN (a * 256 + b) := by
  apply Int64.toBitVec_inj.mp
  show (BitVec.ofNat 64 a <<< (BitVec.smod 8#64 64#64)) ||| BitVec.ofNat 64 b = BitVec.ofNat 64 (a * 256 + b)
  have e1 : BitVec.ofNat 64 a <<< (BitVec.smod 8#64 64#64) = BitVec.ofNat 64 a <<< 8 := rfl
  rw [e1]
  apply BitVec.eq_of_toNat_eq
  rw [BitVec.toNat_or, BitVec.toNat_shiftLeft, BitVec.toNat_ofNat, BitVec.toNat_ofNat, BitVec.toNat_ofNat, Nat.mod_eq_of_lt (show a < 2 ^ 64 by omega), Nat.mod_eq_of_lt (show b < 2 ^ 64 by omega), Nat.shiftLeft_eq, Nat.mod_eq_of_lt (show a * 2 ^ 8 < 2 ^ 64 by omega), Nat.mod_eq_of_lt (show a * 256 + b < 2 ^ 64 by omega), ← Nat.shiftLeft_eq, ← Nat.shiftLeft_add_eq_or_of_lt (show b < 2 ^ 8 by omega), Nat.shiftLeft_eq]
theorem vR_eq {p : Nat} : ∀ l, l ≤ 8 → (∀ j, j < l → isL (txB m (p + j))) → vR m p l = lgN (nR (bts m p l)) := by
  intro l
  induction l with
  | zero => intro _ _; rfl
  | succ l ih =>
    intro hl h
    have hb := (txB_eq m (p + l)).2
    have h1 := nR_lt l (bts m p l) (bts_len p l) (bts_all l (fun j hj => h j (by omega)))
    have h2 : 256 ^ l ≤ 256 ^ 7 := Nat.pow_le_pow_right (by decide) (by omega)
    have h3 : (256 : Nat) ^ 7 = 2 ^ 56 := by decide
    show (vR m p l <<< ((8 : Int32).toInt64 &&& 63)) ||| (nI (txB m (p + l))).toInt64 = lgN (nW 256 0 (bts m p l ++ [txB m (p + l)]))
    rw [ih (by omega) (fun j hj => h j (by omega)), lgN_b _ hb, nW_snoc, sh8 (by omega) hb]
    rfl
theorem lcmp_e (x y : Int64) : lg_cmp x y = 0 ↔ x = y := by
  unfold lg_cmp
  by_cases h1 : x > y
  · rw [if_pos h1]
    exact ⟨fun z => absurd z (by decide), fun z => by subst z; exact absurd h1 (Int64.lt_irrefl)⟩
  · rw [if_neg h1]
    by_cases h2 : x = y
    · rw [if_pos h2]; exact ⟨fun _ => h2, fun _ => rfl⟩
    · rw [if_neg h2]; exact ⟨fun z => absurd z (by decide), fun z => absurd z h2⟩
/-- the first of n places where P holds, or -1 -/
def fndI (P : Nat → Prop) (n : Nat) (r : Int32) : Prop := (∃ i, i < n ∧ P i ∧ (∀ j, j < i → ¬ P j) ∧ r = nI i) ∨ ((∀ j, j < n → ¬ P j) ∧ r = -1)
theorem fndI.uniq {P Q : Nat → Prop} {n : Nat} {r s : Int32} (h : fndI P n r) (h' : fndI Q n s) (e : ∀ i, i < n → (P i ↔ Q i)) : r = s := by
  rcases h with ⟨i, i1, i2, i3, i4⟩ | ⟨i1, i2⟩
  · rcases h' with ⟨j, j1, j2, j3, j4⟩ | ⟨j1, j2⟩
    · have : i = j := by
        rcases Nat.lt_trichotomy i j with z | z | z
        · exact absurd ((e i i1).mp i2) (j3 i z)
        · exact z
        · exact absurd ((e j j1).mpr j2) (i3 j z)
      rw [i4, j4, this]
    · exact absurd ((e i i1).mp i2) (j1 i i1)
  · rcases h' with ⟨j, j1, j2, j3, j4⟩ | ⟨j1, j2⟩
    · exact absurd ((e j j1).mpr j2) (i1 j j1)
    · rw [i2, j2]
end TOKE
