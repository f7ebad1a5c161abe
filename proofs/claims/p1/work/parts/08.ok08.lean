/-! the words of the methods 213 to 214, checked by the kernel; the reference's long constructor in pieces -/
theorem ge_app {α : Type} {a b : List α} {n i : Nat} {x : α} (h : a.length = n) (hx : b[i]? = some x) : (a ++ b)[n + i]? = some x := by
  rw [← h, List.getElem?_append_right (Nat.le_add_right _ _), Nat.add_sub_cancel_left]
  exact hx
theorem ge_left {α : Type} {a b : List α} {i : Nat} {x : α} (hx : a[i]? = some x) : (a ++ b)[i]? = some x := by
  rw [List.getElem?_append_left (List.getElem?_eq_some_iff.mp hx).1]
  exact hx
set_option maxRecDepth 100000 in
theorem cw7 : tables_1_7[225]? = some (.code yX12_init cX12_init 5 none) := rfl
set_option maxRecDepth 100000 in
theorem cw_213 : lw_tbl[1867]? = some (.code (jY 213).1 (jY 213).2.1 (jY 213).2.2.1 (jY 213).2.2.2) := by
  show (k2_sels lw_privs ++ (tables_1_1 ++ (tables_1_2 ++ (tables_1_3 ++ (tables_1_4 ++ (tables_1_5 ++ (tables_1_6 ++ (tables_1_7 ++ (tables_1_8 ++ (tables_1_9 ++ (tables_1_10 ++ (tables_1_11 ++ tables_1_12))))))))))))[202 + (240 + (240 + (240 + (240 + (240 + (240 + 225))))))]? = some (.code yX12_init cX12_init 5 none)
  exact ge_app (by decide +kernel) (ge_app (by decide +kernel) (ge_app (by decide +kernel) (ge_app (by decide +kernel) (ge_app (by decide +kernel) (ge_app (by decide +kernel) (ge_app (by decide +kernel) (ge_left cw7)))))))
set_option maxRecDepth 100000 in
theorem om_213 : okM 213 = true := by
  have e : jpos.getD 213 [] = [1867, 1866, 0, 221, 2] := by decide +kernel
  have h1 : j_w 1867 (.code (jY 213).1 (jY 213).2.1 (jY 213).2.2.1 (jY 213).2.2.2) = true := decide_eq_true cw_213
  unfold okM
  rw [e]
  dsimp only
  rw [h1]
  decide +kernel
theorem all_td {α : Type} (l : List α) (f : α → Bool) (n : Nat) (h1 : (l.take n).all f = true) (h2 : (l.drop n).all f = true) : l.all f = true := by
  rw [← List.take_append_drop n l, List.all_append, h1, h2]
  rfl
set_option maxRecDepth 100000 in
theorem oc_213_0 : (q_213.take 50).all (okE (jY 213)) = true := by decide +kernel
set_option maxRecDepth 100000 in
theorem oc_213_1 : ((q_213.drop 50).take 50).all (okE (jY 213)) = true := by decide +kernel
set_option maxRecDepth 100000 in
theorem oc_213_2 : (((q_213.drop 50).drop 50).take 50).all (okE (jY 213)) = true := by decide +kernel
set_option maxRecDepth 100000 in
theorem oc_213_3 : ((((q_213.drop 50).drop 50).drop 50).take 50).all (okE (jY 213)) = true := by decide +kernel
set_option maxRecDepth 100000 in
theorem oc_213_4 : (((((q_213.drop 50).drop 50).drop 50).drop 50).take 50).all (okE (jY 213)) = true := by decide +kernel
set_option maxRecDepth 100000 in
theorem oc_213_5 : ((((((q_213.drop 50).drop 50).drop 50).drop 50).drop 50).take 50).all (okE (jY 213)) = true := by decide +kernel
set_option maxRecDepth 100000 in
theorem oc_213_6 : (((((((q_213.drop 50).drop 50).drop 50).drop 50).drop 50).drop 50).take 50).all (okE (jY 213)) = true := by decide +kernel
set_option maxRecDepth 100000 in
theorem oc_213_7 : ((((((((q_213.drop 50).drop 50).drop 50).drop 50).drop 50).drop 50).drop 50).take 50).all (okE (jY 213)) = true := by decide +kernel
set_option maxRecDepth 100000 in
theorem oc_213_8 : (((((((((q_213.drop 50).drop 50).drop 50).drop 50).drop 50).drop 50).drop 50).drop 50).take 50).all (okE (jY 213)) = true := by decide +kernel
set_option maxRecDepth 100000 in
theorem oc_213_9 : (((((((((q_213.drop 50).drop 50).drop 50).drop 50).drop 50).drop 50).drop 50).drop 50).drop 50).all (okE (jY 213)) = true := by decide +kernel
theorem ok_213 : q_213.all (okE (jY 213)) = true := (all_td _ _ 50 oc_213_0 (all_td _ _ 50 oc_213_1 (all_td _ _ 50 oc_213_2 (all_td _ _ 50 oc_213_3 (all_td _ _ 50 oc_213_4 (all_td _ _ 50 oc_213_5 (all_td _ _ 50 oc_213_6 (all_td _ _ 50 oc_213_7 (all_td _ _ 50 oc_213_8 oc_213_9)))))))))
theorem om_214 : okM 214 = true := by decide +kernel
set_option maxRecDepth 100000 in
theorem ok_214 : q_214.all (okE (jY 214)) = true := by decide +kernel
set_option maxRecDepth 100000 in
theorem okp_8 : ∀ k ∈ List.range' 213 2, jOk k := List.forall_mem_cons.mpr ⟨(⟨om_213, ok_213⟩ : jOk 213), List.forall_mem_cons.mpr ⟨(⟨om_214, ok_214⟩ : jOk 214), fun _ h => absurd h List.not_mem_nil⟩⟩
