/-! THE WORLD of a store: its cells in the heap, by an address for each number -/
theorem j_sh_eq (sh : List (Nat × Nat)) : ∀ i, j_sh sh i = sh[i]? := by
  induction sh with
  | nil => intro i; rfl
  | cons v l ih => intro i; cases i with
    | zero => rfl
    | succ i => simp only [j_sh, ih, List.getElem?_cons_succ]
def tv (τ : Nat → Nat) : Value → Value
  | .ref a => .ref (τ a)
  | v => v
theorem tv_cat (τ : Nat → Nat) (v : Value) : (tv τ v).category = v.category := by cases v <;> rfl
theorem tv_rf (τ : Nat → Nat) (r : Option Nat) : tv τ (j_rf r) = va_rf (r.map τ) := by cases r <;> rfl
def jfv (τ : Nat → Nat) (S : jS) (ci i j : Nat) : Value := match jty ci j with
  | 0 => .int (S.2.1 i j)
  | 3 => .int (S.2.1 i j)
  | 1 => .long (S.2.2.1 i j)
  | _ => va_rf ((S.2.2.2 i j).map τ)
def jcell (dA : Nat → ClassId) (τ : Nat → Nat) (S : jS) (i : Nat) (kn : Nat × Nat) : va_E :=
  if kn.1 < 100 then .inr (kn.1, (List.range kn.2).map (jfv τ S kn.1 i))
  else if kn.1 = 103 then .inl (dA 3, kn.2, .inr (.inl (S.2.2.1 i)))
  else if kn.1 = 104 then .inl (dA 4, kn.2, .inr (.inr (.inr (.inr (fun j => (S.2.2.2 i j).map τ)))))
  else .inl (dA (kn.1 - 100), kn.2, .inl (S.2.1 i))
def jws (dA : Nat → ClassId) (τ : Nat → Nat) (S : jS) : va_W := (List.range S.1.length).map (fun i => (τ i, jcell dA τ S i (S.1.getD i (0, 0))))
theorem jws_length (dA : Nat → ClassId) (τ : Nat → Nat) (S : jS) : (jws dA τ S).length = S.1.length := by simp [jws]
theorem jws_get (dA : Nat → ClassId) (τ : Nat → Nat) (S : jS) (i : Nat) : (jws dA τ S)[i]? = if i < S.1.length then some (τ i, jcell dA τ S i (S.1.getD i (0, 0))) else none := by
  unfold jws
  rw [List.getElem?_map]
  by_cases h : i < S.1.length
  · rw [if_pos h, List.getElem?_range h]; rfl
  · rw [if_neg h, List.getElem?_eq_none (by simp; omega)]; rfl
theorem jws_at {dA : Nat → ClassId} {τ : Nat → Nat} {S : jS} {i : Nat} {kn : Nat × Nat} (h : j_sh S.1 i = some kn) : (jws dA τ S)[i]? = some (τ i, jcell dA τ S i kn) := by
  rw [j_sh_eq] at h
  have hl : i < S.1.length := (List.getElem?_eq_some_iff.mp h).1
  rw [jws_get, if_pos hl, List.getD_eq_getElem?_getD, h]
  rfl
theorem j_sh_lt {S : jS} {i : Nat} {kn : Nat × Nat} (h : j_sh S.1 i = some kn) : i < S.1.length := by
  rw [j_sh_eq] at h
  exact (List.getElem?_eq_some_iff.mp h).1
theorem jcell_same {dA : Nat → ClassId} {τ : Nat → Nat} {S S' : jS} {i : Nat} (h1 : S'.2.1 i = S.2.1 i) (h2 : S'.2.2.1 i = S.2.2.1 i) (h3 : S'.2.2.2 i = S.2.2.2 i) (kn : Nat × Nat) : jcell dA τ S' i kn = jcell dA τ S i kn := by
  unfold jcell
  rw [h1, h2, h3]
  have h4 : jfv τ S' kn.1 i = jfv τ S kn.1 i := by funext j; unfold jfv; rw [h1, h2, h3]
  rw [h4]
/-- one cell changed -/
theorem jws_set {dA : Nat → ClassId} {τ : Nat → Nat} {S S' : jS} {o : Nat} {kn : Nat × Nat} {x : va_E} (hs : S'.1 = S.1) (ho : j_sh S.1 o = some kn) (h1 : ∀ i, i ≠ o → S'.2.1 i = S.2.1 i) (h2 : ∀ i, i ≠ o → S'.2.2.1 i = S.2.2.1 i) (h3 : ∀ i, i ≠ o → S'.2.2.2 i = S.2.2.2 i) (hx : x = jcell dA τ S' o kn) : (jws dA τ S).set o (τ o, x) = jws dA τ S' := by
  subst hx
  apply List.ext_getElem?
  intro i
  have hol := j_sh_lt ho
  rw [List.getElem?_set, jws_get, jws_get, jws_length, hs]
  by_cases hi : o = i
  · subst hi
    rw [if_pos rfl, if_pos hol, if_pos hol]
    rw [j_sh_eq] at ho
    rw [List.getD_eq_getElem?_getD, ho]
    rfl
  · rw [if_neg hi]
    by_cases hl : i < S.1.length
    · rw [if_pos hl, if_pos hl, jcell_same (h1 i (fun q => hi q.symm)) (h2 i (fun q => hi q.symm)) (h3 i (fun q => hi q.symm))]
    · rw [if_neg hl, if_neg hl]
/-- one cell more -/
theorem jws_push {dA : Nat → ClassId} {τ : Nat → Nat} {S S' : jS} {kn : Nat × Nat} {x : va_E} (hs : S'.1 = S.1 ++ [kn]) (h1 : ∀ i, i ≠ S.1.length → S'.2.1 i = S.2.1 i) (h2 : ∀ i, i ≠ S.1.length → S'.2.2.1 i = S.2.2.1 i) (h3 : ∀ i, i ≠ S.1.length → S'.2.2.2 i = S.2.2.2 i) (hx : x = jcell dA τ S' S.1.length kn) : jws dA τ S ++ [(τ S.1.length, x)] = jws dA τ S' := by
  subst hx
  apply List.ext_getElem?
  intro i
  rw [List.getElem?_append, jws_get, jws_get, jws_length, hs, List.length_append]
  by_cases hl : i < S.1.length
  · rw [if_pos hl, if_pos hl, if_pos (by simp; omega), List.getD_eq_getElem?_getD, List.getD_eq_getElem?_getD, List.getElem?_append_left hl]
    rw [jcell_same (h1 i (by omega)) (h2 i (by omega)) (h3 i (by omega))]
  · rw [if_neg hl]
    by_cases he : i = S.1.length
    · subst he
      rw [if_pos (by simp), List.getD_eq_getElem?_getD, List.getElem?_append_right (Nat.le_refl _)]
      simp
    · rw [if_neg (by simp; omega), List.getElem?_eq_none (by simp; omega)]
/-- sizes in all -/
def jsz (sh : List (Nat × Nat)) : Nat := (sh.map (·.2)).sum
theorem jsz_push (sh : List (Nat × Nat)) (x : Nat × Nat) : jsz (sh ++ [x]) = jsz sh + x.2 := by simp [jsz]
theorem jsz_le {a b : List (Nat × Nat)} (h : a <+: b) : jsz a ≤ jsz b := by
  obtain ⟨c, rfl⟩ := h
  simp [jsz]
abbrev jtl (dA : Nat → ClassId) : List (ClassId × FieldType) := [(dA 0, .int), (dA 1, .byte), (dA 2, .boolean), (dA 3, .long), (dA 4, .object "ShipYard$Person")]
/-- the static arrays -/
def jStat (τ : Nat → Nat) (A : Nat → Prop) (U : State) (H : Heap) : Prop := ∀ q, q < 7 → va_Z "ShipYard" (jsn.getD q "") "[I" (.ref (τ (1000 + q))) A U H ∧ va_T .int (τ (1000 + q)) (jTT.1.getD q []).length (fun j => .int ((jTT.1.getD q []).getD j 0)) A U H
theorem jStat.moved {τ : Nat → Nat} {A : Nat → Prop} {u U : State} {H : Heap} (hvm : u.vm.Alike U.vm) (h : jStat τ A u H) : jStat τ A U H := fun q hq => ⟨(h q hq).1.moved hvm, (h q hq).2.moved hvm⟩
theorem jStat.kept {τ : Nat → Nat} {A : Nat → Prop} {U : State} {H H1 : Heap} (h : jStat τ A U H) (hq : ∀ a : Nat, a < H.size → ¬ A a → H1[a]? = H[a]?) : jStat τ A U H1 := fun q hl => ⟨(h q hl).1.kept hq, (h q hl).2.kept hq⟩
theorem jStat.narrow {τ : Nat → Nat} {A B : Nat → Prop} {U : State} {H : Heap} (h : jStat τ A U H) (hAB : ∀ q, B q → A q) : jStat τ B U H := fun q hl => ⟨(h q hl).1.narrow hAB, (h q hl).2.narrow hAB⟩
/-- words that are good at every warmer machine, and the nest words -/
def jgood : List Jvm.Cond := lw_tbl.filter goodWord
def jnest : List Jvm.Cond := lw_tbl.filter (fun w => match w with
  | .fieldLinkNest .. => true
  | .methodLinkNest .. => true
  | _ => false)
theorem jgood_in : ∀ w ∈ jgood, w ∈ lw_tbl := fun _ h => (List.mem_filter.mp h).1
theorem jgood_ok : ∀ w ∈ jgood, goodWord w = true := fun _ h => (List.mem_filter.mp h).2
theorem jgood_self : GoodIn jgood jgood := fun w h => ⟨h, good_of_word (jgood_ok w h)⟩
theorem j_w_good {p : Nat} {w : Jvm.Cond} (h : j_w p w = true) (hg : goodWord w = true) : w ∈ jgood := by
  simp only [j_w, decide_eq_true_eq] at h
  exact List.mem_filter.mpr ⟨List.mem_of_getElem? h, hg⟩
theorem j_w_nestF {p : Nat} {a : String} {i : Nat} {b n d h0 : String} (h : j_w p (.fieldLinkNest a i b n d h0) = true) : Jvm.Cond.fieldLinkNest a i b n d h0 ∈ jnest := by
  simp only [j_w, decide_eq_true_eq] at h
  exact List.mem_filter.mpr ⟨List.mem_of_getElem? h, rfl⟩
theorem j_w_nestM {p : Nat} {a : String} {i : Nat} {x : MethodName} {h0 : String} (h : j_w p (.methodLinkNest a i x h0) = true) : Jvm.Cond.methodLinkNest a i x h0 ∈ jnest := by
  simp only [j_w, decide_eq_true_eq] at h
  exact List.mem_filter.mpr ⟨List.mem_of_getElem? h, rfl⟩
def jNst (U : State) : Prop := ∀ w ∈ jnest, va_Nw w U
theorem jNst.warm {s U : State} (hW : s.WarmedH U.vm) (h : jNst s) : jNst U := by
  intro w hw
  have h1 := h w hw
  have h2 := (List.mem_filter.mp hw).2
  cases w <;> first | exact va_Nw.warmF hW h1 | exact va_Nw.warmM hW h1 | (simp at h2)
theorem jNst.same {u U : State} (hv : u.vm = U.vm) (h : jNst u) : jNst U := by
  intro w hw
  have h1 := h w hw
  have h2 := (List.mem_filter.mp hw).2
  cases w <;> first | exact va_Nw.same rfl hv h1 | (simp at h2)
