/-! THE LOCALS, THE CONTEXT OF A METHOD, ITS FRAME -/
theorem j_ld_lt {ls : jL} : ∀ {i : Nat} {v : Value}, j_ld ls i = some v → i < ls.length := by
  induction ls with
  | nil => intro i v h; simp [j_ld] at h
  | cons a l ih => intro i v h; cases i with
    | zero => simp
    | succ i => simp only [j_ld] at h; have := ih h; simp; omega
theorem j_set_len (ls : jL) : ∀ (i : Nat) (x : Option Value), (j_set ls i x).length = ls.length := by
  induction ls with
  | nil => intro i x; rfl
  | cons a l ih => intro i x; cases i with
    | zero => rfl
    | succ i => simp only [j_set, List.length_cons, ih]
theorem j_ld_set (ls : jL) : ∀ (i j : Nat) (x : Option Value), j_ld (j_set ls i x) j = if j = i ∧ i < ls.length then x else j_ld ls j := by
  induction ls with
  | nil => intro i j x; simp [j_set, j_ld]
  | cons a l ih => intro i j x; cases i with
    | zero => cases j with
      | zero => simp [j_set, j_ld]
      | succ j => simp [j_set, j_ld]
    | succ i => cases j with
      | zero => simp [j_set, j_ld]
      | succ j => simp only [j_set, j_ld, ih, List.length_cons, Nat.add_right_cancel_iff, Nat.add_lt_add_iff_right]
theorem j_sto1_len (ls : jL) (i : Nat) (v : Value) : (j_sto1 ls i v).length = ls.length := by
  cases i with
  | zero => simp only [j_sto1, j_set_len]
  | succ k => simp only [j_sto1]; split <;> simp only [j_set_len]
theorem j_sto2_len (ls : jL) (i : Nat) (v : Value) : (j_sto2 ls i v).length = ls.length := by
  simp only [j_sto2, j_set_len, j_sto1_len]
theorem j_ld_sto1 {ls : jL} {i j : Nat} {v w : Value} (h : j_ld (j_sto1 ls i v) j = some w) : (j = i ∧ w = v) ∨ (j ≠ i ∧ j_ld ls j = some w ∧ ¬ (j + 1 = i ∧ w.category = 2)) := by
  cases i with
  | zero =>
    simp only [j_sto1, j_ld_set] at h
    by_cases hj : j = 0 ∧ 0 < ls.length
    · rw [if_pos hj] at h; cases h; exact Or.inl ⟨hj.1, rfl⟩
    · rw [if_neg hj] at h
      refine Or.inr ⟨fun q => hj ⟨q, ?_⟩, h, by omega⟩
      subst q
      exact j_ld_lt h
  | succ k =>
    have key : ∀ (ls0 : jL), ls0.length = ls.length → j_ld (j_set ls0 (k + 1) (some v)) j = some w → (∀ x, j_ld ls0 j = some x → j_ld ls j = some x ∧ (j = k → x.category ≠ 2)) → (j = k + 1 ∧ w = v) ∨ (j ≠ k + 1 ∧ j_ld ls j = some w ∧ ¬ (j + 1 = k + 1 ∧ w.category = 2)) := by
      intro ls0 hl h hx
      rw [j_ld_set] at h
      by_cases hj : j = k + 1 ∧ k + 1 < ls0.length
      · rw [if_pos hj] at h; cases h; exact Or.inl ⟨hj.1, rfl⟩
      · rw [if_neg hj] at h
        obtain ⟨h1, h2⟩ := hx _ h
        refine Or.inr ⟨fun q => hj ⟨q, ?_⟩, h1, fun q => h2 (by omega) q.2⟩
        have := j_ld_lt h
        omega
    have dead : ∀ (y : Value), j_ld ls k = some y → ∀ x, j_ld (j_set ls k none) j = some x → j_ld ls j = some x ∧ (j = k → x.category ≠ 2) := by
      intro y hy x hx
      rw [j_ld_set] at hx
      by_cases hj : j = k ∧ k < ls.length
      · rw [if_pos hj] at hx; cases hx
      · rw [if_neg hj] at hx
        exact ⟨hx, fun q => absurd ⟨q, j_ld_lt hy⟩ hj⟩
    simp only [j_sto1] at h
    split at h
    · next x hx => exact key _ (j_set_len _ _ _) h (dead _ hx)
    · next x hx => exact key _ (j_set_len _ _ _) h (dead _ hx)
    · next h1 h2 =>
      refine key _ rfl h (fun x hx => ⟨hx, fun q => ?_⟩)
      subst q
      intro hc
      cases x with
      | long a => exact h1 a hx
      | double a => exact h2 a hx
      | _ => simp [Value.category] at hc
theorem j_ld_sto2 {ls : jL} {i j : Nat} {v w : Value} (h : j_ld (j_sto2 ls i v) j = some w) (hi : i + 1 < ls.length) : (j = i ∧ w = v) ∨ (j ≠ i ∧ j ≠ i + 1 ∧ j_ld ls j = some w ∧ ¬ (j + 1 = i ∧ w.category = 2)) := by
  simp only [j_sto2, j_ld_set] at h
  by_cases hj : j = i + 1 ∧ i + 1 < (j_sto1 ls i v).length
  · rw [if_pos hj] at h; cases h
  · rw [if_neg hj] at h
    rcases j_ld_sto1 h with q | ⟨q1, q2, q3⟩
    · exact Or.inl q
    · exact Or.inr ⟨q1, fun q => hj ⟨q, by rw [j_sto1_len]; exact hi⟩, q2, q3⟩
def jas (τ : Nat → Nat) (ls : jL) : List (Nat × Value) := (List.range ls.length).filterMap (fun i => (j_ld ls i).map (fun v => (i, tv τ v)))
theorem mem_jas {τ : Nat → Nat} {ls : jL} {q : Nat × Value} : q ∈ jas τ ls ↔ ∃ v, j_ld ls q.1 = some v ∧ q.2 = tv τ v := by
  unfold jas
  rw [List.mem_filterMap]
  constructor
  · rintro ⟨i, -, h⟩
    cases hv : j_ld ls i with
    | none => rw [hv] at h; cases h
    | some v => rw [hv] at h; cases h; exact ⟨v, hv, rfl⟩
  · rintro ⟨v, h1, h2⟩
    refine ⟨q.1, List.mem_range.mpr (j_ld_lt h1), ?_⟩
    rw [h1]
    obtain ⟨a, b⟩ := q
    cases h2
    rfl
def jLs (τ : Nat → Nat) (ls : jL) (lsR : Array Slot) (nL : Nat) : Prop := ls.length = nL ∧ lv_has lsR nL (jas τ ls)
theorem jLs.at {τ : Nat → Nat} {ls : jL} {lsR : Array Slot} {nL i : Nat} {v : Value} (h : jLs τ ls lsR nL) (hi : j_ld ls i = some v) : lsR[i]? = some (.val (tv τ v)) := h.2.2.2 (i, tv τ v) (mem_jas.mpr ⟨v, hi, rfl⟩)
theorem jLs.sto1 {τ : Nat → Nat} {ls : jL} {lsR : Array Slot} {nL i : Nat} {v : Value} (hl : ls.length = nL) (h : lv_has lsR nL ((i, tv τ v) :: (jas τ ls).filter (fun q => !(q.1 == i) && !(q.1 + 1 == i && q.2.category == 2)))) : jLs τ (j_sto1 ls i v) lsR nL := by
  refine ⟨by rw [j_sto1_len]; exact hl, h.1, h.2.1, fun q hq => h.2.2 q ?_⟩
  obtain ⟨w, h1, h2⟩ := mem_jas.mp hq
  obtain ⟨j, x⟩ := q
  dsimp only at h1 h2
  subst h2
  rcases j_ld_sto1 h1 with ⟨rfl, rfl⟩ | ⟨q1, q2, q3⟩
  · exact List.mem_cons_self
  · refine List.mem_cons_of_mem _ (List.mem_filter.mpr ⟨mem_jas.mpr ⟨w, q2, rfl⟩, ?_⟩)
    simp only [Bool.and_eq_true, Bool.not_eq_true', beq_eq_false_iff_ne, ne_eq, Bool.and_eq_false_iff, tv_cat]
    refine ⟨q1, ?_⟩
    by_cases hz : j + 1 = i
    · exact Or.inr (fun q => q3 ⟨hz, q⟩)
    · exact Or.inl hz
theorem jLs.sto2 {τ : Nat → Nat} {ls : jL} {lsR : Array Slot} {nL i : Nat} {v : Value} (hl : ls.length = nL) (hi : i + 1 < nL) (h : lv_has lsR nL ((i, tv τ v) :: (jas τ ls).filter (fun q => !(q.1 == i) && (!(q.1 == i + 1) && !(q.1 + 1 == i && q.2.category == 2))))) : jLs τ (j_sto2 ls i v) lsR nL := by
  refine ⟨by rw [j_sto2_len]; exact hl, h.1, h.2.1, fun q hq => h.2.2 q ?_⟩
  obtain ⟨w, h1, h2⟩ := mem_jas.mp hq
  obtain ⟨j, x⟩ := q
  dsimp only at h1 h2
  subst h2
  rcases j_ld_sto2 h1 (by rw [hl]; exact hi) with ⟨rfl, rfl⟩ | ⟨q1, q4, q2, q3⟩
  · exact List.mem_cons_self
  · refine List.mem_cons_of_mem _ (List.mem_filter.mpr ⟨mem_jas.mpr ⟨w, q2, rfl⟩, ?_⟩)
    simp only [Bool.and_eq_true, Bool.not_eq_true', beq_eq_false_iff_ne, ne_eq, Bool.and_eq_false_iff, tv_cat]
    refine ⟨q1, q4, ?_⟩
    by_cases hz : j + 1 = i
    · exact Or.inr (fun q => q3 ⟨hz, q⟩)
    · exact Or.inl hz
/-- the locals at the entry -/
theorem lg_sl_cons (v : Value) (r : List Value) : (lg_sl (v :: r)).length = (if v.category = 2 then 2 else 1) + (lg_sl r).length := by
  simp only [lg_sl, List.flatMap_cons, List.length_append]
  split <;> rfl
theorem j_ent_len : ∀ (as : List Value) (n : Nat), (lg_sl as).length ≤ n → (j_ent n as).length = n := by
  intro as
  induction as with
  | nil => intro n _; simp [j_ent]
  | cons v r ih =>
    intro n h
    rw [lg_sl_cons] at h
    have h1 : 1 + (lg_sl r).length ≤ n := by split at h <;> omega
    cases v with
    | long x =>
      have h2 : 2 + (lg_sl r).length ≤ n := h
      simp only [j_ent, List.length_cons]
      rw [ih _ (by omega)]
      omega
    | _ =>
      simp only [j_ent, List.length_cons]
      rw [ih _ (by omega)]
      omega
theorem j_ent_ld {n : Nat} {as : List Value} : ∀ {b i : Nat} {v : Value}, (∀ w ∈ as, (∀ x, w ≠ .double x)) → j_ld (j_ent n as) i = some v → (b + i, v) ∈ lv_args b as := by
  induction as generalizing n with
  | nil =>
    intro b i v _ h
    exfalso
    simp only [j_ent] at h
    have : ∀ (m j : Nat), j_ld (List.replicate m none) j = none := by
      intro m
      induction m with
      | zero => intro j; rfl
      | succ m ih => intro j; cases j with
        | zero => rfl
        | succ j => simp only [List.replicate_succ, j_ld, ih]
    rw [this] at h
    cases h
  | cons a r ih =>
    intro b i v hd h
    have hr : ∀ w ∈ r, ∀ x, w ≠ .double x := fun w hw => hd w (List.mem_cons_of_mem _ hw)
    have one : ∀ (m : Nat), a.category = 1 → j_ld (some a :: j_ent m r) i = some v → (b + i, v) ∈ lv_args b (a :: r) := by
      intro m hc h
      cases i with
      | zero => simp only [j_ld] at h; cases h; exact List.mem_cons_self
      | succ i =>
        simp only [j_ld] at h
        have h2 := ih (b := b + 1) hr h
        simp only [lv_args, hc]
        exact List.mem_cons_of_mem _ (by rw [show b + (i + 1) = b + 1 + i by omega]; exact h2)
    cases a with
    | long x =>
      simp only [j_ent] at h
      cases i with
      | zero => simp only [j_ld] at h; cases h; exact List.mem_cons_self
      | succ i => cases i with
        | zero => simp [j_ld] at h
        | succ i =>
          simp only [j_ld] at h
          have h2 := ih (b := b + 2) hr h
          simp only [lv_args, Value.category]
          exact List.mem_cons_of_mem _ (by rw [show b + (i + 1 + 1) = b + 2 + i by omega]; exact h2)
    | double x => exact absurd rfl (hd _ List.mem_cons_self x)
    | _ => exact one _ rfl h
theorem lv_args_map (τ : Nat → Nat) : ∀ (as : List Value) (b i : Nat) (v : Value), (i, v) ∈ lv_args b as → (i, tv τ v) ∈ lv_args b (as.map (tv τ)) := by
  intro as
  induction as with
  | nil => intro b i v h; exact absurd h List.not_mem_nil
  | cons a r ih =>
    intro b i v h
    simp only [lv_args, List.map_cons, tv_cat] at h ⊢
    rcases List.mem_cons.mp h with h | h
    · cases h; exact List.mem_cons_self
    · exact List.mem_cons_of_mem _ (ih _ _ _ h)
theorem lg_sl_map (τ : Nat → Nat) (as : List Value) : (lg_sl (as.map (tv τ))).length = (lg_sl as).length := by
  induction as with
  | nil => rfl
  | cons a r ih =>
    simp only [lg_sl, List.map_cons, List.flatMap_cons, List.length_append, tv_cat] at ih ⊢
    rw [ih]
    congr 1
    split <;> rfl
theorem jLs.ent {τ : Nat → Nat} {as : List Value} {n : Nat} (hn : (lg_sl as).length ≤ n) (hd : ∀ w ∈ as, (∀ x, w ≠ .double x)) : jLs τ (j_ent n as) ((lg_sl (as.map (tv τ)) ++ List.replicate (n - (lg_sl (as.map (tv τ))).length) Slot.unset).toArray) n := by
  have h := lv_entry (as.map (tv τ)) (n := n) (by rw [lg_sl_map]; exact hn)
  refine ⟨j_ent_len as n hn, h.1, h.2.1, fun q hq => h.2.2 q ?_⟩
  obtain ⟨v, h1, h2⟩ := mem_jas.mp hq
  obtain ⟨i, x⟩ := q
  dsimp only at h1 h2
  subst h2
  have h3 := lv_args_map τ as 0 (0 + i) v (j_ent_ld (b := 0) hd h1)
  rw [Nat.zero_add] at h3
  exact h3
