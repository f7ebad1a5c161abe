/-! THE CONSTRUCTORS: both runs -/
def jSup {α : Type} (e : α) (m n : Nat) (P : Nat → Nat → α) : Prop := ∀ c f, m ≤ c ∨ n ≤ f → P c f = e
theorem jSup_0 {α : Type} (e : α) (m n : Nat) : jSup e m n (fun _ _ => e) := fun _ _ _ => rfl
theorem jSup_up {α : Type} {e : α} {m n a k : Nat} {P : Nat → Nat → α} (v : α) (ha : a < m) (hk : k < n) (h : jSup e m n P) : jSup e m n (j_up P a k v) := by
  intro c f hcf
  rw [j_up_app]
  by_cases h1 : c = a
  · rw [if_pos h1]
    by_cases h2 : f = k
    · omega
    · rw [if_neg h2, ← h1]; exact h c f hcf
  · rw [if_neg h1]; exact h c f hcf
theorem jSup_va {α : Type} {e : α} {m n : Nat} (b : Nat) {P : Nat → Nat → α} (h : jSup e m n P) : jSup e m n (va_up P b (fun _ => e)) := by
  intro c f hcf
  unfold va_up
  by_cases h1 : c = b
  · rw [if_pos h1]
  · rw [if_neg h1]; exact h c f hcf
theorem jSup_row {α : Type} {e : α} {m n b : Nat} {P : Nat → Nat → α} {g : Nat → α} (hb : b < m) (hg : ∀ f, n ≤ f → g f = e) (h : jSup e m n P) : jSup e m n (va_up P b g) := by
  intro c f hcf
  unfold va_up
  by_cases h1 : c = b
  · rw [if_pos h1]; exact hg f (by omega)
  · rw [if_neg h1]; exact h c f hcf
theorem jSup_of {m n : Nat} (l : List (List (Option Nat))) (hm : l.length = m) (hn : l.all (fun r => Nat.ble r.length n) = true) : jSup none m n (fun c f => (l.getD c []).getD f none) := by
  intro c f hcf
  show (l.getD c []).getD f none = none
  by_cases hc : c < l.length
  · have h1 : l.getD c [] = l[c] := by simp [List.getD, hc]
    rw [h1]
    have h2 := List.all_eq_true.mp hn l[c] (List.getElem_mem hc)
    have h3 : (l[c]).length ≤ n := Nat.le_of_ble_eq_true h2
    have h4 : (l[c])[f]? = none := List.getElem?_eq_none (by omega)
    simp only [List.getD, h4, Option.getD]
  · have h4 : l[c]? = none := List.getElem?_eq_none (by omega)
    simp only [List.getD, h4, Option.getD, List.getElem?_nil]
theorem jSup_eq {α : Type} {e : α} {m n : Nat} {P Q : Nat → Nat → α} (hP : jSup e m n P) (hQ : jSup e m n Q) (h : ∀ c, c < m → ∀ f, f < n → P c f = Q c f) : P = Q := by
  funext c f
  by_cases hcf : m ≤ c ∨ n ≤ f
  · rw [hP c f hcf, hQ c f hcf]
  · exact h c (by omega) f (by omega)
def i3f : Nat → Nat → Int32 := va_up (va_up (va_up (fun _ _ => 0) 2 m0f) 4 m0f) 6 m0f
def l3f : Nat → Nat → Int64 := va_up (va_up (va_up (fun _ _ => 0) 35 (pkS y_0 41).2.2) 36 (pkS y_1 76).2.2) 37 (pkS y_2 64).2.2
theorem va_i3 (n : Nat) : va_up i3f (n + 7) (fun _ => 0) = i3f := by
  apply va_zt
  unfold i3f
  rw [va_up_ne _ _ (by omega), va_up_ne _ _ (by omega), va_up_ne _ _ (by omega)]
theorem va_l3 (n : Nat) : va_up l3f (n + 38) (fun _ => 0) = l3f := by
  apply va_zt
  unfold l3f
  rw [va_up_ne _ _ (by omega), va_up_ne _ _ (by omega), va_up_ne _ _ (by omega)]
theorem init0 {d : Nat} (I : Nat → Nat → Int32) (P : Nat → Nat → Option Nat) : jv (d + 1) 0 0 [some (.ref 27)] [] (shC.take 28, I, (fun _ _ => 0), P) = some (none, (shC.take 38, (va_up (va_up (va_up (va_up I 28 (fun _ => 0)) 29 (fun _ => 0)) 32 (fun _ => 0)) 33 (fun _ => 0)), l3f, (j_up (j_up (j_up (j_up (j_up (j_up (j_up (j_up (j_up (j_up P 27 3 (some 28)) 27 4 (some 29)) 27 5 (some 30)) 27 11 (some 31)) 27 12 (some 32)) 27 13 (some 33)) 27 15 (some 34)) 27 8 (some 35)) 27 9 (some 36)) 27 10 (some 37)))) := by
  rw [K0_0, va_z64, va_z64, va_z64, jgo_some rfl (packed_35 _ _ _ _ _ _ _ _)]
  simp only [Option.toList, List.cons_append, List.nil_append]
  rw [K0_1, jgo_some rfl (packed_36 _ _ _ _ _ _ _ _)]
  simp only [Option.toList, List.cons_append, List.nil_append]
  rw [K0_2, jgo_some rfl (packed_37 _ _ _ _ _ _ _ _)]
  simp only [Option.toList, List.cons_append, List.nil_append]
  rw [K0_3]
  rfl
theorem init95 {d : Nat} (I : Nat → Nat → Int32) (L : Nat → Nat → Int64) (P : Nat → Nat → Option Nat) : jv (d + 1) 95 0 [some (.ref 60), some (.ref 1)] [] (shC.take 61, I, L, P) = some (none, (shC.take 83, (va_up (va_up (va_up (va_up (va_up (va_up (va_up (va_up (va_up (va_up (va_up (va_up (va_up (va_up I 67 (fun _ => 0)) 69 (fun _ => 0)) 71 (fun _ => 0)) 72 (fun _ => 0)) 73 (fun _ => 0)) 74 (fun _ => 0)) 75 (fun _ => 0)) 76 (fun _ => 0)) 77 (fun _ => 0)) 78 (fun _ => 0)) 79 (fun _ => 0)) 80 (fun _ => 0)) 81 (fun _ => 0)) 82 (fun _ => 0)), (va_up (va_up (va_up (va_up (va_up (va_up (va_up (va_up (va_up L 61 (fun _ => 0)) 62 (fun _ => 0)) 63 (fun _ => 0)) 64 (fun _ => 0)) 65 (fun _ => 0)) 66 (fun _ => 0)) 68 (fun _ => 0)) 70 (fun _ => 0)) 72 (fun _ => 0)), (j_up (j_up (j_up (j_up (j_up (j_up (j_up (j_up (j_up (j_up (j_up (va_up (j_up (j_up (j_up (j_up (j_up (j_up (j_up (j_up (j_up (j_up (j_up (j_up P 60 3 (some 61)) 60 9 (some 62)) 60 10 (some 63)) 60 11 (some 64)) 60 12 (some 65)) 60 13 (some 66)) 60 14 (some 67)) 60 15 (some 68)) 60 16 (some 69)) 60 17 (some 70)) 60 18 (some 71)) 60 0 (some 1)) 72 (fun _ => none)) 72 0 (some 73)) 72 1 (some 74)) 72 2 (some 75)) 72 3 (some 76)) 72 4 (some 77)) 72 5 (some 78)) 72 6 (some 79)) 72 7 (some 80)) 72 8 (some 81)) 72 9 (some 82)) 60 1 (some 72)))) := by
  rw [K95_0, jgo_some rfl (K32_0 _ _ _ _)]
  simp only [Option.toList, List.nil_append]
  rw [K95_1]
theorem K167_4h (d : Nat) (I : Nat → Nat → Int32) (L : Nat → Nat → Int64) (P : Nat → Nat → Option Nat) (o3 o4 o5 : Option Value) (h : P 0 3 = some 7) : jv d 167 66 [some (.ref 0), some (.ref 1), some (.int 0), o3, o4, o5] [.ref 8, .int 0, .ref 7] (shC.take 13, I, L, P) = jgo jTT jMM d 69 [.ref 13] (shC.take 14, (va_up I 13 (fun _ => 0)), (va_up L 13 (fun _ => 0)), (va_up (j_up P 7 0 (some 8)) 13 (fun _ => none))) (fun v S => jv d 167 66 [some (.ref 0), some (.ref 1), some (.int 1), o3, o4, o5] (v.toList ++ [.ref 13, .int 1, .ref 7]) S) := by
  have := K167_4 d I L P o3 o4 o5
  rw [j_up_same P 0 3 (some 7) h] at this
  exact this
theorem K167_5h (d : Nat) (I : Nat → Nat → Int32) (L : Nat → Nat → Int64) (P : Nat → Nat → Option Nat) (o3 o4 o5 : Option Value) (h : P 0 3 = some 7) : jv d 167 66 [some (.ref 0), some (.ref 1), some (.int 1), o3, o4, o5] [.ref 13, .int 1, .ref 7] (shC.take 18, I, L, P) = jgo jTT jMM d 69 [.ref 18] (shC.take 19, (va_up I 18 (fun _ => 0)), (va_up L 18 (fun _ => 0)), (va_up (j_up P 7 1 (some 13)) 18 (fun _ => none))) (fun v S => jv d 167 66 [some (.ref 0), some (.ref 1), some (.int 2), o3, o4, o5] (v.toList ++ [.ref 18, .int 2, .ref 7]) S) := by
  have := K167_5 d I L P o3 o4 o5
  rw [j_up_same P 0 3 (some 7) h] at this
  exact this
set_option maxRecDepth 100000 in
set_option maxHeartbeats 4000000 in
theorem con_class {d : Nat} : jv (d + 3) 167 0 [some (.ref 0), none, none, none, none, none] [] (jS1 11 20) = some (none, (shC, i3f, l3f, pC)) := by
  show jv (d + 3) 167 0 [some (.ref 0), none, none, none, none, none] [] (shC.take 1, (fun _ _ => 0), (fun _ _ => 0), (fun _ _ => none)) = _
  rw [K167_0, va_z32, va_z64, jgo_some rfl (init46_1 _ _ _)]
  simp only [Option.toList, List.nil_append]
  rw [K167_1, va_zt (show va_up (fun (_ _ : Nat) => (0 : Int32)) 2 m0f 3 = fun _ => 0 from rfl), va_z64, jgo_some rfl (init46_3 _ _ _)]
  simp only [Option.toList, List.nil_append]
  rw [K167_2, va_zt (show va_up (va_up (fun (_ _ : Nat) => (0 : Int32)) 2 m0f) 4 m0f 5 = fun _ => 0 from rfl), va_z64, jgo_some rfl (init46_5 _ _ _)]
  simp only [Option.toList, List.nil_append]
  rw [show va_up (va_up (va_up (fun (_ _ : Nat) => (0 : Int32)) 2 m0f) 4 m0f) 6 m0f = i3f from rfl]
  rw [K167_3, jgo_some rfl (K69_8_0 _ _ _ _)]
  simp only [Option.toList, List.nil_append, va_i3, va_z64]
  refine (K167_4h _ _ _ _ _ _ _ ?_).trans ?_
  · rfl
  rw [jgo_some rfl (K69_13_0 _ _ _ _)]
  simp only [Option.toList, List.nil_append, va_i3, va_z64]
  refine (K167_5h _ _ _ _ _ _ _ ?_).trans ?_
  · rfl
  rw [jgo_some rfl (K69_18_0 _ _ _ _)]
  simp only [Option.toList, List.nil_append, va_i3, va_z64]
  rw [K167_6, jgo_some rfl (K37_0 _ _ _ _)]
  simp only [Option.toList, List.nil_append, va_i3, va_z64]
  rw [K167_7, va_z64, jgo_some rfl (init0 _ _)]
  simp only [Option.toList, List.nil_append, va_i3, va_z64]
  rw [K167_8, jgo_some rfl (K92_38_0 _ _ _ _)]
  simp only [Option.toList, List.nil_append, va_i3, va_l3]
  rw [K167_9, jgo_some rfl (K92_49_0 _ _ _ _)]
  simp only [Option.toList, List.nil_append, va_i3, va_l3]
  rw [K167_10, jgo_some rfl (init95 _ _ _)]
  simp only [Option.toList, List.nil_append, va_i3, va_l3]
  rw [K167_11, jgo_some rfl (K112_0 _ _ _ _)]
  simp only [Option.toList, List.nil_append, va_i3, va_l3]
  rw [K167_12, jgo_some rfl (K76_0 _ _ _ _)]
  simp only [Option.toList, List.nil_append, va_i3, va_l3]
  rw [K167_13, jgo_some rfl (K130_0 _ _ _ _)]
  simp only [Option.toList, List.nil_append, va_i3, va_l3]
  rw [K167_14, jgo_some rfl (K139_0 _ _ _ _)]
  simp only [Option.toList, List.nil_append, va_i3, va_l3]
  rw [K167_15]
  refine congrArg (fun P => (some ((none : Option Value), ((shC, i3f, l3f, P) : jS)) : jO)) ?_
  refine jSup_eq (m := 121) (n := 21) (e := none) ?_ (jSup_of pCl rfl (by decide +kernel)) (by decide +kernel)
  repeat (first | exact jSup_0 _ _ _ | (refine jSup_up _ (by decide) (by decide) ?_) | (refine jSup_va _ ?_))
