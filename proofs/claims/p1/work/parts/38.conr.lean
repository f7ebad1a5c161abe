/-! THE CONSTRUCTORS: the reference -/
def r0f : Nat → Nat → Int32 := va_up (va_up (fun _ _ => 0) 1 (fun j => nI (rowsN.getD j 0))) 2 (fun j => nI (fieldsN.getD j 0))
theorem getD_big {l : List Nat} {n f : Nat} (hl : l.length = n) (h : n ≤ f) : nI (l.getD f 0) = 0 := by
  have h4 : l[f]? = none := List.getElem?_eq_none (by omega)
  simp only [List.getD, h4, Option.getD]
  rfl
set_option maxRecDepth 100000 in
theorem K213_a (d : Nat) (L : Nat → Nat → Int64) (P : Nat → Nat → Option Nat) (o1 o2 o3 o4 : Option Value) : jv d 213 0 [some (.ref 0), o1, o2, o3, o4] [] (shR.take 1, (fun _ _ => 0), L, P) = jv d 213 158 [some (.ref 0), o1, o2, o3, o4] [] (shR.take 3, r0f, L, j_up (j_up P 0 0 (some 1)) 0 1 (some 2)) := by
  rw [K213_0, K213_1]
  refine congrArg (fun I => jv d 213 158 [some (.ref 0), o1, o2, o3, o4] [] ((shR.take 3, I, L, j_up (j_up P 0 0 (some 1)) 0 1 (some 2)) : jS)) ?_
  refine jSup_eq (m := 3) (n := 13) (e := 0) ?_ ?_ (by decide +kernel)
  · repeat (first | exact jSup_0 _ _ _ | (refine jSup_up _ (by decide) (by decide) ?_) | (refine jSup_va _ ?_))
  · exact jSup_row (by decide) (fun f hf => getD_big rfl hf) (jSup_row (by decide) (fun f hf => getD_big rfl hf) (jSup_0 _ _ _))
theorem va_r0 (n : Nat) : va_up r0f (n + 3) (fun _ => 0) = r0f := by
  apply va_zt
  unfold r0f
  rw [va_up_ne _ _ (by omega), va_up_ne _ _ (by omega)]
set_option maxRecDepth 100000 in
set_option maxHeartbeats 4000000 in
theorem con_ref_a (d : Nat) : jv d 213 0 [some (.ref 0), none, none, none, none] [] (jS1 12 128) = jv d 213 797 [some (.ref 0), some (.int 0), some (.int 0), some (.int 0), none] [] (shR, r0f, (fun _ _ => 0), pR) := by
  show jv d 213 0 [some (.ref 0), none, none, none, none] [] (shR.take 1, (fun _ _ => 0), (fun _ _ => 0), (fun _ _ => none)) = _
  rw [K213_a, K213_2, K213_3, K213_4, K213_5, K213_6, K213_7, K213_8, K213_9, K213_10, K213_11, K213_12, K213_13, K213_14, K213_15, K213_16, K213_17, K213_18, K213_19, K213_20, K213_21, K213_22, K213_23, K213_24, K213_25, K213_26, K213_27, K213_28, K213_29, K213_30, K213_31, K213_32, K213_33, K213_34, K213_35, K213_36, K213_37, K213_38, K213_39, K213_40, K213_41, K213_42, K213_43, K213_44, K213_45, K213_46, K213_47, K213_48, K213_49, K213_50, K213_51, K213_52, K213_53, K213_54, K213_55, K213_56, K213_57, K213_58, K213_59, K213_60, K213_61, K213_62, K213_63, K213_64, K213_65, K213_66, K213_67, K213_68, K213_69, K213_70, K213_71, K213_72, K213_73, K213_74, K213_75, K213_76, K213_77, K213_78]
  simp only [va_r0, va_z64]
  refine congrArg (fun P => jv d 213 797 [some (.ref 0), some (.int 0), some (.int 0), some (.int 0), none] [] ((shR, r0f, (fun _ _ => 0), P) : jS)) ?_
  refine jSup_eq (m := 78) (n := 128) (e := none) ?_ (jSup_of pRl rfl (by decide +kernel)) (by decide +kernel)
  repeat (first | exact jSup_0 _ _ _ | (refine jSup_up _ (by decide) (by decide) ?_) | (refine jSup_va _ ?_))
theorem j_up_va_self {α : Type} (f : Nat → Nat → α) (a k : Nat) (g : Nat → α) (v : α) : j_up (va_up f a g) a k v = va_up f a (va_up g k v) := by
  unfold j_up
  rw [va_up_self, va_up_up]
theorem j_up_va_ne {α : Type} (f : Nat → Nat → α) {a b : Nat} (h : a ≠ b) (k : Nat) (g : Nat → α) (v : α) : j_up (va_up f b g) a k v = va_up (j_up f a k v) b g := by
  unfold j_up
  rw [va_up_ne _ _ h]
  funext c
  by_cases h1 : c = a
  · subst h1; rw [va_up_self, va_up_ne _ _ h, va_up_self]
  · rw [va_up_ne _ _ h1]
    by_cases h2 : c = b
    · subst h2; rw [va_up_self, va_up_self]
    · rw [va_up_ne _ _ h2, va_up_ne _ _ h2, va_up_ne _ _ h1]
theorem va_up_comm {α : Type} (f : Nat → α) {a b : Nat} (h : a ≠ b) (g k : α) : va_up (va_up f a g) b k = va_up (va_up f b k) a g := by
  funext c
  by_cases h1 : c = a
  · subst h1; rw [va_up_ne _ _ h, va_up_self, va_up_self]
  · rw [va_up_ne (va_up f b k) _ h1]
    by_cases h2 : c = b
    · subst h2; rw [va_up_self, va_up_self]
    · rw [va_up_ne _ _ h2, va_up_ne _ _ h2, va_up_ne _ _ h1]
def rT (t p : Nat) : Nat → Nat → Int32 := va_up (va_up (va_up r0f 3 (j_fill (fun _ => 0) (fun j => nI (frN.getD j 0)) t)) 4 (j_fill (fun _ => 0) (fun j => nI (fpN.getD j 0)) t)) 5 (j_fill (fun _ => 0) (fun j => nI (rowN.getD j 0)) p)
theorem rT_0 : rT 0 0 = r0f := by
  unfold rT
  rw [j_fill_zero, j_fill_zero, j_fill_zero, va_r0 0, va_r0 1, va_r0 2]
theorem rT_34 (t p : Nat) : j_up (j_up (rT t p) 3 t (nI (frN.getD t 0))) 4 t (nI (fpN.getD t 0)) = rT (t + 1) p := by
  unfold rT
  rw [j_up_va_ne _ (by decide), j_up_va_ne _ (by decide), j_up_va_ne _ (by decide), j_up_va_self, j_up_va_self, j_fill_succ (fun _ => 0) (fun j => nI (frN.getD j 0)), j_fill_succ (fun _ => 0) (fun j => nI (fpN.getD j 0))]
theorem rT_5 (t p : Nat) : j_up (rT t p) 5 p (nI (rowN.getD p 0)) = rT t (p + 1) := by
  unfold rT
  rw [j_up_va_self, j_fill_succ (fun _ => 0) (fun j => nI (rowN.getD j 0))]
def rowOf (q : Nat) : Nat := if q < 8 then 0 + (q - 0) / 8 else if q < 152 then 1 + (q - 8) / 9 else if q < 280 then 17 + (q - 152) / 8 else if q < 400 then 33 + (q - 280) / 5 else if q < 432 then 57 + (q - 400) / 2 else if q < 480 then 73 + (q - 432) / 6 else if q < 600 then 81 + (q - 480) / 5 else if q < 712 then 105 + (q - 600) / 14 else if q < 796 then 113 + (q - 712) / 7 else if q < 844 then 125 + (q - 796) / 8 else if q < 879 then 131 + (q - 844) / 5 else if q < 888 then 138 + (q - 879) / 1 else if q < 1189 then 147 + (q - 888) / 301 else 0
theorem rowN_eq : rowN = (List.range 1189).map rowOf := by decide +kernel
theorem rowN_at {q : Nat} (h : q < 1189) : rowN.getD q 0 = rowOf q := by
  rw [rowN_eq]
  simp only [List.getD, List.getElem?_map, List.getElem?_range h, Option.map, Option.getD]
theorem tab_row : ∀ t, t < 13 → ∀ k, k < rowsN.getD t 0 * fieldsN.getD t 0 → rowN.getD (fpN.getD t 0 + k) 0 = frN.getD t 0 + k / fieldsN.getD t 0 := by
  intro t ht k hk
  rw [rowN_at (by have := (tab_fp t ht).2.1; have := (tab_fp t ht).1; omega)]
  match t, ht with
  | 0, _ =>
    have hk : k < 8 := hk
    show rowOf (0 + k) = 0 + k / 8
    unfold rowOf
    rw [if_pos (by omega), show 0 + k - 0 = k by omega]
  | 1, _ =>
    have hk : k < 144 := hk
    show rowOf (8 + k) = 1 + k / 9
    unfold rowOf
    rw [if_neg (by omega), if_pos (by omega), show 8 + k - 8 = k by omega]
  | 2, _ =>
    have hk : k < 128 := hk
    show rowOf (152 + k) = 17 + k / 8
    unfold rowOf
    rw [if_neg (by omega), if_neg (by omega), if_pos (by omega), show 152 + k - 152 = k by omega]
  | 3, _ =>
    have hk : k < 120 := hk
    show rowOf (280 + k) = 33 + k / 5
    unfold rowOf
    rw [if_neg (by omega), if_neg (by omega), if_neg (by omega), if_pos (by omega), show 280 + k - 280 = k by omega]
  | 4, _ =>
    have hk : k < 32 := hk
    show rowOf (400 + k) = 57 + k / 2
    unfold rowOf
    rw [if_neg (by omega), if_neg (by omega), if_neg (by omega), if_neg (by omega), if_pos (by omega), show 400 + k - 400 = k by omega]
  | 5, _ =>
    have hk : k < 48 := hk
    show rowOf (432 + k) = 73 + k / 6
    unfold rowOf
    rw [if_neg (by omega), if_neg (by omega), if_neg (by omega), if_neg (by omega), if_neg (by omega), if_pos (by omega), show 432 + k - 432 = k by omega]
  | 6, _ =>
    have hk : k < 120 := hk
    show rowOf (480 + k) = 81 + k / 5
    unfold rowOf
    rw [if_neg (by omega), if_neg (by omega), if_neg (by omega), if_neg (by omega), if_neg (by omega), if_neg (by omega), if_pos (by omega), show 480 + k - 480 = k by omega]
  | 7, _ =>
    have hk : k < 112 := hk
    show rowOf (600 + k) = 105 + k / 14
    unfold rowOf
    rw [if_neg (by omega), if_neg (by omega), if_neg (by omega), if_neg (by omega), if_neg (by omega), if_neg (by omega), if_neg (by omega), if_pos (by omega), show 600 + k - 600 = k by omega]
  | 8, _ =>
    have hk : k < 84 := hk
    show rowOf (712 + k) = 113 + k / 7
    unfold rowOf
    rw [if_neg (by omega), if_neg (by omega), if_neg (by omega), if_neg (by omega), if_neg (by omega), if_neg (by omega), if_neg (by omega), if_neg (by omega), if_pos (by omega), show 712 + k - 712 = k by omega]
  | 9, _ =>
    have hk : k < 48 := hk
    show rowOf (796 + k) = 125 + k / 8
    unfold rowOf
    rw [if_neg (by omega), if_neg (by omega), if_neg (by omega), if_neg (by omega), if_neg (by omega), if_neg (by omega), if_neg (by omega), if_neg (by omega), if_neg (by omega), if_pos (by omega), show 796 + k - 796 = k by omega]
  | 10, _ =>
    have hk : k < 35 := hk
    show rowOf (844 + k) = 131 + k / 5
    unfold rowOf
    rw [if_neg (by omega), if_neg (by omega), if_neg (by omega), if_neg (by omega), if_neg (by omega), if_neg (by omega), if_neg (by omega), if_neg (by omega), if_neg (by omega), if_neg (by omega), if_pos (by omega), show 844 + k - 844 = k by omega]
  | 11, _ =>
    have hk : k < 9 := hk
    show rowOf (879 + k) = 138 + k / 1
    unfold rowOf
    rw [if_neg (by omega), if_neg (by omega), if_neg (by omega), if_neg (by omega), if_neg (by omega), if_neg (by omega), if_neg (by omega), if_neg (by omega), if_neg (by omega), if_neg (by omega), if_neg (by omega), if_pos (by omega), show 879 + k - 879 = k by omega]
  | 12, _ =>
    have hk : k < 301 := hk
    show rowOf (888 + k) = 147 + k / 301
    unfold rowOf
    rw [if_neg (by omega), if_neg (by omega), if_neg (by omega), if_neg (by omega), if_neg (by omega), if_neg (by omega), if_neg (by omega), if_neg (by omega), if_neg (by omega), if_neg (by omega), if_neg (by omega), if_neg (by omega), if_pos (by omega), show 888 + k - 888 = k by omega]
theorem tab_fr : ∀ t, t < 13 → frN.getD (t + 1) 0 = frN.getD t 0 + rowsN.getD t 0 := by decide +kernel
theorem rT_1 (t p j : Nat) : rT t p 1 j = nI (rowsN.getD j 0) := rfl
theorem rT_2 (t p j : Nat) : rT t p 2 j = nI (fieldsN.getD j 0) := rfl
theorem con_ref_b (d : Nat) (x : Option Value) : ∃ y, jv d 213 797 [some (.ref 0), some (.int 0), some (.int 0), some (.int 0), x] [] (shR, r0f, (fun _ _ => 0), pR) = jv d 213 797 [some (.ref 0), some (.int (nI 148)), some (.int (nI 1189)), some (.int (nI 13)), y] [] (shR, rT 13 1189, (fun _ _ => 0), pR) := by
  have outer := j_runE (fun t (x : Option Value) => jv d 213 797 [some (.ref 0), some (.int (nI (frN.getD t 0))), some (.int (nI (fpN.getD t 0))), some (.int (nI t)), x] [] (shR, rT t (fpN.getD t 0), (fun _ _ => 0), pR)) 13 (fun t ht x => by
    obtain ⟨q1, q2, q3, q4⟩ := tab_fp t ht
    have hF := tab_F0 t ht
    have hj := j_in_nI ht (show 13 < 2 ^ 31 by decide)
    have inner := j_run (fun k => jv d 213 820 [some (.ref 0), some (.int (nI (frN.getD t 0))), some (.int (nI (fpN.getD t 0))), some (.int (nI t)), some (.int (nI k))] [] (shR, rT (t + 1) (fpN.getD t 0 + k), (fun _ _ => 0), pR)) (rowsN.getD t 0 * fieldsN.getD t 0) (fun k hk => by
      have hv := tab_row t ht k hk
      rw [B213_820]
      simp only [if_pos hj, nI_clamp (show t < 2 ^ 31 by omega), rT_1, rT_2, nI_mul, if_pos (nI_lt hk (by omega)), if_neg (nI_ne0 hF (by omega)), nI_div (show k < 2 ^ 31 by omega) (show fieldsN.getD t 0 < 2 ^ 31 by omega), nI_add, if_pos (j_in_nI (show fpN.getD t 0 + k < 1189 by omega) (by decide)), nI_clamp (show fpN.getD t 0 + k < 2 ^ 31 by omega), nI_1]
      rw [← hv, rT_5, Nat.add_assoc])
    refine ⟨some (.int (nI (rowsN.getD t 0 * fieldsN.getD t 0))), ?_⟩
    rw [B213_797, if_pos (show nI t < (13 : Int32) from nI_lt (b := 13) ht (by decide)), if_pos hj, if_pos hj, nI_clamp (show t < 2 ^ 31 by omega), rT_34]
    refine inner.trans ?_
    rw [B213_820]
    simp only [if_pos hj, nI_clamp (show t < 2 ^ 31 by omega), rT_1, rT_2, nI_mul, if_neg (nI_nlt (Nat.le_refl _) (show rowsN.getD t 0 * fieldsN.getD t 0 < 2 ^ 31 by omega)), nI_add, nI_1, q1, tab_fr t ht])
  obtain ⟨y, hy⟩ := outer x
  refine ⟨y, ?_⟩
  have hy' : jv d 213 797 [some (.ref 0), some (.int 0), some (.int 0), some (.int 0), x] [] (shR, rT 0 0, (fun _ _ => 0), pR) = jv d 213 797 [some (.ref 0), some (.int (nI 148)), some (.int (nI 1189)), some (.int (nI 13)), y] [] (shR, rT 13 1189, (fun _ _ => 0), pR) := hy
  rw [rT_0] at hy'
  exact hy'
theorem rT_cst : rCst (rT 13 1189) := by
  refine ⟨fun t ht => rfl, fun t ht => rfl, fun t ht => ?_, fun t ht => ?_, fun q hq => ?_⟩
  · show j_fill (fun _ => 0) (fun j => nI (frN.getD j 0)) 13 t = _
    simp only [j_fill, if_pos ht]
  · show j_fill (fun _ => 0) (fun j => nI (fpN.getD j 0)) 13 t = _
    simp only [j_fill, if_pos ht]
  · show j_fill (fun _ => 0) (fun j => nI (rowN.getD j 0)) 1189 q = _
    simp only [j_fill, if_pos hq]
/-- a token is added -/
theorem token_ok {d n : Nat} {I : Nat → Nat → Int32} {L : Nat → Nat → Int64} (h : I 0 27 = nI n) (hn : n < 1202) (k a : Int32) (v : Int64) : jv d 257 0 [some (.ref 0), some (.int k), some (.int a), some (.long v), none] [] (shR, I, L, pR) = some (none, (shR, j_up (j_up (j_up I 18 n k) 19 n a) 0 27 (nI (n + 1)), j_up L 20 n v, pR)) := by
  have e1 : (j_up I 18 n k) 0 27 = nI n := by rw [j_up_app, if_neg (by decide), h]
  have e2 : (j_up (j_up I 18 n k) 19 n a) 0 27 = nI n := by rw [j_up_app, if_neg (by decide), e1]
  rw [B257_0]
  simp only [h, if_pos (j_in_nI hn (by decide)), nI_clamp (show n < 2 ^ 31 by omega), e1, e2, nI_1]
def rf0 : Nat → Int32 := fun j => if j = 22 then -2 else if j = 30 then -2 else if j = 27 then 1 else 0
def rI0 : Nat → Nat → Int32 := va_up (va_up (rT 13 1189) 6 m0f) 0 rf0
theorem ff_eq (n : Nat) {g h : Nat → Int32} (h1 : ∀ j, j < n → g j = h j) (h2 : ∀ j, n ≤ j → g j = 0 ∧ h j = 0) : g = h := by
  funext j
  by_cases hj : j < n
  · exact h1 j hj
  · rw [(h2 j (by omega)).1, (h2 j (by omega)).2]
set_option maxHeartbeats 1000000 in
theorem parse_new (d : Nat) : jv (d + 2) 261 0 [some (.ref 0), some (.ref 6)] [] (shR, va_up (va_up (rT 13 1189) 6 m0f) 0 (va_up (fun _ => 0) 22 (-2)), (fun _ _ => 0), pR) = some (some (.int 1), (shR, rI0, (fun _ _ => 0), pR)) := by
  rw [B261_0_a6]
  simp only [j_up_va_self]
  generalize hg : va_up (va_up (va_up (va_up (va_up (va_up (va_up (va_up (va_up (va_up (fun _ => (0 : Int32)) 22 (-2)) 29 0) 30 (-2)) 36 0) 39 0) 46 0) 45 0) 49 0) 52 0) 28 0 = g
  have g27 : va_up g 27 0 27 = nI 0 := va_up_self _ _ _
  have tk : jv (d + 1) 256 0 [some (.ref 0), some (.ref 6), none, none, none, none, none, none, none] [] (shR, va_up (va_up (rT 13 1189) 6 m0f) 0 g, (fun _ _ => 0), pR) = some (some (.int 1), (shR, va_up (va_up (rT 13 1189) 6 m0f) 0 (va_up (va_up g 27 0) 27 1), (fun _ _ => 0), pR)) := by
    rw [B256_0_a6, if_pos (by decide +kernel)]
    have e1 : va_up (va_up (rT 13 1189) 6 m0f) 0 g 4 (12 : Int32).toNatClampNeg = nI 888 := rfl
    rw [e1, if_pos (j_in_nI (by decide) (by decide)), nI_clamp (by decide)]
    have e2 : va_up (va_up (rT 13 1189) 6 m0f) 0 g 6 888 = 0 := rfl
    rw [e2, B256_17_a6, if_neg (by decide +kernel), j_up_va_self, jgo_some rfl (token_ok (n := 0) (I := va_up (va_up (rT 13 1189) 6 m0f) 0 (va_up g 27 0)) g27 (by decide) 0 0 0)]
    simp only [Option.toList, List.nil_append]
    rw [j_up_same (va_up (va_up (rT 13 1189) 6 m0f) 0 (va_up g 27 0)) 18 0 0 rfl, j_up_same (va_up (va_up (rT 13 1189) 6 m0f) 0 (va_up g 27 0)) 19 0 0 rfl, j_up_va_self, j_up_same (fun _ _ => (0 : Int64)) 20 0 0 rfl, B256_337_a6, if_pos (by decide +kernel)]
    rfl
  rw [jgo_some rfl tk]
  have g28 : (va_up (va_up g 27 0) 27 1) 28 = 0 := by rw [← hg]; rfl
  have g29 : (va_up (va_up g 27 0) 27 1) 29 = 0 := by rw [← hg]; rfl
  have gf : va_up (va_up g 27 0) 27 1 = rf0 := by
    rw [← hg]
    refine ff_eq 64 (by decide +kernel) (fun j hj => ⟨?_, ?_⟩)
    · simp only [va_up]
      repeat rw [if_neg (by omega)]
    · simp only [rf0]
      repeat rw [if_neg (by omega)]
  simp only [Option.toList, List.cons_append, List.nil_append]
  rw [gf] at g28 g29 ⊢
  show jv (d + 2) 261 51 [some (.ref 0), some (.ref 6)] [.int 1] (shR, rI0, (fun _ _ => 0), pR) = _
  have i28 : rI0 0 28 = 0 := g28
  have i29 : rI0 0 29 = 0 := g29
  have i18 : rI0 18 (0 : Int32).toNatClampNeg = 0 := rfl
  have is0 : jv (d + 1) 258 0 [some (.ref 0), some (.int 0)] [] (shR, rI0, (fun _ _ => 0), pR) = some (some (.int 1), (shR, rI0, (fun _ _ => 0), pR)) := by
    rw [B258_0, i28, if_pos (by decide +kernel), i18, if_pos rfl, B258_18, if_pos (by decide +kernel)]
  rw [B261_51_a6, if_neg (by decide +kernel), B261_56_a6, i29, if_pos rfl, jgo_some rfl is0]
  simp only [Option.toList, List.cons_append, List.nil_append]
  rw [B261_68_a6, if_neg (by decide +kernel), B261_78_a6, i29, if_pos rfl, B261_90_a6, if_pos (by decide +kernel)]
set_option maxHeartbeats 1000000 in
theorem con_ref {d : Nat} : jv (d + 3) 213 0 [some (.ref 0), none, none, none, none] [] (jS1 12 128) = some (none, (shR, rI0, (fun _ _ => 0), pR)) := by
  obtain ⟨y, hy⟩ := con_ref_b (d + 3) none
  rw [con_ref_a, hy, B213_797, if_neg (show ¬ nI 13 < (13 : Int32) from nI_nlt (a := 13) (b := 13) (Nat.le_refl _) (by decide))]
  have c0 : j_up (rT 13 1189) 0 22 (-2) = va_up (rT 13 1189) 0 (va_up (fun _ => 0) 22 (-2)) := rfl
  have hc : rCst (va_up (rT 13 1189) 0 (va_up (fun _ => 0) 22 (-2))) := ⟨rT_cst.1, rT_cst.2.1, rT_cst.2.2.1, rT_cst.2.2.2.1, rT_cst.2.2.2.2⟩
  rw [c0, jgo_some rfl (first_ok6 hc _ _ _ _)]
  · have c1 : va_up (va_up (rT 13 1189) 0 (va_up (fun _ => 0) 22 (-2))) 6 (j_fill (va_up (rT 13 1189) 0 (va_up (fun _ => 0) 22 (-2)) 6) m0f 1189) = va_up (va_up (rT 13 1189) 6 m0f) 0 (va_up (fun _ => 0) 22 (-2)) := by
      rw [show va_up (rT 13 1189) 0 (va_up (fun _ => 0) 22 (-2)) 6 = fun _ => (0 : Int32) from rfl, fill_m0z, va_up_comm _ (by decide)]
    rw [c1]
    simp only [Option.toList, List.nil_append]
    rw [B213_909, jgo_some rfl (parse_new _)]
    simp only [Option.toList, List.cons_append, List.nil_append]
    rw [B213_917]
