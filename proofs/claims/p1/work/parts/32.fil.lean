/-! ARRAYS FILLED, and small rules of ints -/
theorem i_bm {n : Nat} (h : n < 2 ^ 31) : ((n : Int)).bmod (2 ^ 32) = n := by
  rw [Int.bmod_def]
  split <;> omega
theorem nI_div {a b : Nat} (ha : a < 2 ^ 31) (hb : b < 2 ^ 31) : nI a / nI b = nI (a / b) := by
  have h1 : a / b < 2 ^ 31 := Nat.lt_of_le_of_lt (Nat.div_le_self a b) ha
  apply Int32.toInt_inj.mp
  rw [Int32.toInt_div, nI_toInt ha, nI_toInt hb, nI_toInt h1, ← Int.ofNat_tdiv]
  exact i_bm h1
theorem nI_sub {a b : Nat} (h : b ≤ a) : nI a - nI b = nI (a - b) := by
  have h1 : nI (a - b) + nI b = nI a := by rw [nI_add, Nat.sub_add_cancel h]
  rw [← h1, Int32.add_sub_cancel]
theorem nI_mod {a b : Nat} (ha : a < 2 ^ 31) (hb : b < 2 ^ 31) : nI a - nI a / nI b * nI b = nI (a % b) := by
  rw [nI_div ha hb, nI_mul, nI_sub (Nat.div_mul_le_self a b)]
  congr 1
  have := Nat.div_add_mod a b
  rw [Nat.mul_comm] at this
  omega
def j_fillL (f : Nat → Int64) (g : Nat → Int64) (n : Nat) : Nat → Int64 := fun j => if j < n then g j else f j
theorem j_fillL_zero (f g : Nat → Int64) : j_fillL f g 0 = f := by funext j; simp [j_fillL]
theorem j_fillL_succ (f g : Nat → Int64) (n : Nat) : va_up (j_fillL f g n) n (g n) = j_fillL f g (n + 1) := by
  funext j
  simp only [va_up, j_fillL]
  by_cases h1 : j = n
  · subst h1; simp
  · by_cases h2 : j < n
    · rw [if_neg h1, if_pos h2, if_pos (by omega)]
    · rw [if_neg h1, if_neg h2, if_neg (by omega)]
theorem j_up_fillL (L : Nat → Nat → Int64) (a n : Nat) (f g : Nat → Int64) : j_up (va_up L a (j_fillL f g n)) a n (g n) = va_up L a (j_fillL f g (n + 1)) := by
  unfold j_up
  rw [va_up_self, j_fillL_succ]
  funext b
  by_cases hb : b = a
  · subst hb; rw [va_up_self, va_up_self]
  · rw [va_up_ne _ _ hb, va_up_ne _ _ hb, va_up_ne _ _ hb]
theorem va_up_same {α : Type} (f : Nat → α) (a : Nat) : va_up f a (f a) = f := by
  funext b
  by_cases hb : b = a
  · subst hb; rw [va_up_self]
  · rw [va_up_ne _ _ hb]
theorem va_up_up {α : Type} (f : Nat → α) (a : Nat) (g h : α) : va_up (va_up f a g) a h = va_up f a h := by
  funext b
  by_cases hb : b = a
  · subst hb; rw [va_up_self, va_up_self]
  · rw [va_up_ne _ _ hb, va_up_ne _ _ hb, va_up_ne _ _ hb]
theorem j_up_same {α : Type} (f : Nat → Nat → α) (a k : Nat) (v : α) (h : f a k = v) : j_up f a k v = f := by
  unfold j_up
  rw [← h, va_up_same, va_up_same]
set_option maxRecDepth 100000 in
theorem F364_0 (d a : Nat) (v : Int32) (o2 o3 : Option Value) (S : jS) : jv d 364 0 [some (.ref a), some (.int v), o2, o3] [] S = j_al jTT none S a (fun n => jv d 364 5 [some (.ref a), some (.int v), some (.int 0), some (.int n)] [] S) := (jblk_eq jTT jMM [5] d mq_364 6 _ _ _ _).trans rfl
set_option maxRecDepth 100000 in
theorem F364_5 (d a : Nat) (v l2 l3 : Int32) (S : jS) : jv d 364 5 [some (.ref a), some (.int v), some (.int l2), some (.int l3)] [] S = if l2 < l3 then j_is none S a l2 v (fun S' => jv d 364 5 [some (.ref a), some (.int v), some (.int (l2 + 1)), some (.int l3)] [] S') else some (none, S) := (jblk_eq jTT jMM [5] d mq_364 10 _ _ _ _).trans rfl
set_option maxRecDepth 100000 in
theorem F365_0 (d a : Nat) (v : Int32) (o2 o3 : Option Value) (S : jS) : jv d 365 0 [some (.ref a), some (.int v), o2, o3] [] S = j_al jTT none S a (fun n => jv d 365 5 [some (.ref a), some (.int v), some (.int 0), some (.int n)] [] S) := (jblk_eq jTT jMM [5] d mq_365 6 _ _ _ _).trans rfl
set_option maxRecDepth 100000 in
theorem F365_5 (d a : Nat) (v l2 l3 : Int32) (S : jS) : jv d 365 5 [some (.ref a), some (.int v), some (.int l2), some (.int l3)] [] S = if l2 < l3 then j_bs none S a l2 v (fun S' => jv d 365 5 [some (.ref a), some (.int v), some (.int (l2 + 1)), some (.int l3)] [] S') else some (none, S) := (jblk_eq jTT jMM [5] d mq_365 10 _ _ _ _).trans rfl
set_option maxRecDepth 100000 in
theorem F363_0 (d a : Nat) (v : Int64) (o3 o4 : Option Value) (S : jS) : jv d 363 0 [some (.ref a), some (.long v), none, o3, o4] [] S = j_al jTT none S a (fun n => jv d 363 6 [some (.ref a), some (.long v), none, some (.int 0), some (.int n)] [] S) := (jblk_eq jTT jMM [6] d mq_363 6 _ _ _ _).trans rfl
set_option maxRecDepth 100000 in
theorem F363_6 (d a : Nat) (v : Int64) (l3 l4 : Int32) (S : jS) : jv d 363 6 [some (.ref a), some (.long v), none, some (.int l3), some (.int l4)] [] S = if l3 < l4 then j_lst none S a l3 v (fun S' => jv d 363 6 [some (.ref a), some (.long v), none, some (.int (l3 + 1)), some (.int l4)] [] S') else some (none, S) := (jblk_eq jTT jMM [6] d mq_363 10 _ _ _ _).trans rfl
theorem fill_int {d a n : Nat} {sh : List (Nat × Nat)} (h : j_sh sh a = some (100, n)) (hn : n < 2 ^ 31) (v : Int32) (o2 o3 : Option Value) (I : Nat → Nat → Int32) (L : Nat → Nat → Int64) (P : Nat → Nat → Option Nat) : jv d 364 0 [some (.ref a), some (.int v), o2, o3] [] (sh, I, L, P) = some (none, (sh, va_up I a (j_fill (I a) (fun _ => v) n), L, P)) := by
  rw [F364_0]
  simp only [j_al, h, Nat.ble]
  show jv d 364 5 [some (.ref a), some (.int v), some (.int 0), some (.int (nI n))] [] (sh, I, L, P) = _
  have key := j_run (fun i => jv d 364 5 [some (.ref a), some (.int v), some (.int (nI i)), some (.int (nI n))] [] (sh, va_up I a (j_fill (I a) (fun _ => v) i), L, P)) n (fun i hi => by
    rw [F364_5, if_pos (nI_lt hi hn)]
    simp only [j_is, h, if_pos (j_in_nI hi hn), nI_clamp (Nat.lt_trans hi hn), nI_1]
    rw [j_up_fill I a i (I a) (fun _ => v)])
  rw [j_fill_zero, va_up_same] at key
  refine key.trans ?_
  rw [F364_5, if_neg (nI_nlt (Nat.le_refl _) hn)]
theorem fill_byte {d a n : Nat} {sh : List (Nat × Nat)} (h : j_sh sh a = some (101, n)) (hn : n < 2 ^ 31) (v : Int32) (o2 o3 : Option Value) (I : Nat → Nat → Int32) (L : Nat → Nat → Int64) (P : Nat → Nat → Option Nat) : jv d 365 0 [some (.ref a), some (.int v), o2, o3] [] (sh, I, L, P) = some (none, (sh, va_up I a (j_fill (I a) (fun _ => vp_nar .byte v) n), L, P)) := by
  rw [F365_0]
  simp only [j_al, h, Nat.ble]
  show jv d 365 5 [some (.ref a), some (.int v), some (.int 0), some (.int (nI n))] [] (sh, I, L, P) = _
  have key := j_run (fun i => jv d 365 5 [some (.ref a), some (.int v), some (.int (nI i)), some (.int (nI n))] [] (sh, va_up I a (j_fill (I a) (fun _ => vp_nar .byte v) i), L, P)) n (fun i hi => by
    rw [F365_5, if_pos (nI_lt hi hn)]
    simp only [j_bs, h, if_pos (j_in_nI hi hn), nI_clamp (Nat.lt_trans hi hn), nI_1]
    rw [j_up_fill I a i (I a) (fun _ => vp_nar .byte v)])
  rw [j_fill_zero, va_up_same] at key
  refine key.trans ?_
  rw [F365_5, if_neg (nI_nlt (Nat.le_refl _) hn)]
theorem fill_long {d a n : Nat} {sh : List (Nat × Nat)} (h : j_sh sh a = some (103, n)) (hn : n < 2 ^ 31) (v : Int64) (o3 o4 : Option Value) (I : Nat → Nat → Int32) (L : Nat → Nat → Int64) (P : Nat → Nat → Option Nat) : jv d 363 0 [some (.ref a), some (.long v), none, o3, o4] [] (sh, I, L, P) = some (none, (sh, I, va_up L a (j_fillL (L a) (fun _ => v) n), P)) := by
  rw [F363_0]
  simp only [j_al, h, Nat.ble]
  show jv d 363 6 [some (.ref a), some (.long v), none, some (.int 0), some (.int (nI n))] [] (sh, I, L, P) = _
  have key := j_run (fun i => jv d 363 6 [some (.ref a), some (.long v), none, some (.int (nI i)), some (.int (nI n))] [] (sh, I, va_up L a (j_fillL (L a) (fun _ => v) i), P)) n (fun i hi => by
    rw [F363_6, if_pos (nI_lt hi hn)]
    simp only [j_lst, h, if_pos (j_in_nI hi hn), nI_clamp (Nat.lt_trans hi hn), nI_1]
    rw [j_up_fillL L a i (L a) (fun _ => v)])
  rw [j_fillL_zero, va_up_same] at key
  refine key.trans ?_
  rw [F363_6, if_neg (nI_nlt (Nat.le_refl _) hn)]
