/-! WHAT IS DONE AT ONE STROKE: Math, arraycopy, the texts; returns -/
section JSTEP
variable {p : Program} {l : Launch} {e : Env} {R : Room} {s : State} {m : MethodId} {args : Array Value} {below : List Frame} {meth : Method} {c : Code} {Q : State → Prop}
variable {dC : Nat → ClassId} {dI : Nat → Nat → Nat} {dA : Nat → ClassId} {τ : Nat → Nat} {A : Nat → Prop} {k d n0 z0 : Nat}
variable {ls : jL} {S : jS} {lsR : Array Slot} {H : Heap} {locs : List Loc} {cells slots : Nat} {pc : Nat} {st : List Value}

theorem j_room3 {d X : Nat} (h : d + 8 ≤ X) : 1 ≤ X := by omega
theorem j_room4 {d X y : Nat} (h : 42 * (d + 8) ≤ X) (hy : y ≤ 8) {c : Nat} (hc : c ≤ 300) : y + c ≤ X := by
  have h1 : 336 ≤ 42 * (d + 8) := by rw [Nat.mul_add]; exact Nat.le_add_left _ _
  generalize 42 * (d + 8) = z at h h1
  omega
theorem js_max (C : jCx p l R s m args meth c dC dI dA τ A k d) (F : jFr s dC dI dA τ A k n0 z0 S ls lsR H locs cells slots) {idx w : Nat} (hw : j_w w (.methodLink (jY k).1.cls idx Lib.Math.max.name) = true) (hd : decode (jY k).2.1 pc = .ok (.invokestatic idx, 3)) (hr1 : cells ≤ R.cells) (hr2 : slots ≤ R.slots) {x y : Int32} {r : List Value} (h8 : Nat.ble (j_sum r) 8 = true) (kk : jK p l e R s m args below meth c Q dC dI dA τ A k n0 z0 (pc + 3) ls (.int (if x < y then y else x) :: r) S) : W p l e R s m args below meth c H locs cells slots Q (F0 m pc lsR ((.int y :: .int x :: r).map (tv τ))) := by
  obtain ⟨hx, hb, hml, hr, hlk, hown, hini, hts, hfx, hA, hf1, hf2, hstr⟩ := C
  have F0' := F
  obtain ⟨hP, hD, hS, hl, hle, hc1, hc2⟩ := F
  exact va_mmax hx hb (hml.trans hl.2.1.symm) hown (hts _ (j_w_good hw rfl)) (hts _ wm_max_s) (hts _ wm_i) (hts _ wm_max_c) (j_room3 hf1) (by rw [j_sum_tv]; exact j_room4 hf2 (Nat.le_of_ble_eq_true h8) (by decide)) hr1 hr2 hd (kk lsR H locs cells slots F0')
theorem js_min (C : jCx p l R s m args meth c dC dI dA τ A k d) (F : jFr s dC dI dA τ A k n0 z0 S ls lsR H locs cells slots) {idx w : Nat} (hw : j_w w (.methodLink (jY k).1.cls idx Lib.Math.min.name) = true) (hd : decode (jY k).2.1 pc = .ok (.invokestatic idx, 3)) (hr1 : cells ≤ R.cells) (hr2 : slots ≤ R.slots) {x y : Int32} {r : List Value} (h8 : Nat.ble (j_sum r) 8 = true) (kk : jK p l e R s m args below meth c Q dC dI dA τ A k n0 z0 (pc + 3) ls (.int (if y < x then y else x) :: r) S) : W p l e R s m args below meth c H locs cells slots Q (F0 m pc lsR ((.int y :: .int x :: r).map (tv τ))) := by
  obtain ⟨hx, hb, hml, hr, hlk, hown, hini, hts, hfx, hA, hf1, hf2, hstr⟩ := C
  have F0' := F
  obtain ⟨hP, hD, hS, hl, hle, hc1, hc2⟩ := F
  exact va_mmin hx hb (hml.trans hl.2.1.symm) hown (hts _ (j_w_good hw rfl)) (hts _ wm_min_s) (hts _ wm_i) (hts _ wm_min_c) (j_room3 hf1) (by rw [j_sum_tv]; exact j_room4 hf2 (Nat.le_of_ble_eq_true h8) (by decide)) hr1 hr2 hd (kk lsR H locs cells slots F0')
theorem js_abs (C : jCx p l R s m args meth c dC dI dA τ A k d) (F : jFr s dC dI dA τ A k n0 z0 S ls lsR H locs cells slots) {idx w : Nat} (hw : j_w w (.methodLink (jY k).1.cls idx Lib.MathLoose.abs_long.x) = true) (hd : decode (jY k).2.1 pc = .ok (.invokestatic idx, 3)) (hr1 : cells ≤ R.cells) (hr2 : slots ≤ R.slots) {x : Int64} {r : List Value} (h8 : Nat.ble (j_sum r) 8 = true) (kk : jK p l e R s m args below meth c Q dC dI dA τ A k n0 z0 (pc + 3) ls (.long (if 0 < x then x else -x) :: r) S) : W p l e R s m args below meth c H locs cells slots Q (F0 m pc lsR ((.long x :: r).map (tv τ))) := by
  obtain ⟨hx, hb, hml, hr, hlk, hown, hini, hts, hfx, hA, hf1, hf2, hstr⟩ := C
  have F0' := F
  obtain ⟨hP, hD, hS, hl, hle, hc1, hc2⟩ := F
  exact va_mabs_long hx hb (hml.trans hl.2.1.symm) hown (hts _ (j_w_good hw rfl)) (hts _ wm_abs_s) (hts _ wm_i) (hts _ wm_abs_c) (j_room3 hf1) (by rw [j_sum_tv]; exact j_room4 hf2 (Nat.le_of_ble_eq_true h8) (by decide)) hr1 hr2 hd (kk lsR H locs cells slots F0')
theorem js_copy (C : jCx p l R s m args meth c dC dI dA τ A k d) (F : jFr s dC dI dA τ A k n0 z0 S ls lsR H locs cells slots) {idx w : Nat} (hw : j_w w (.methodLink (jY k).1.cls idx arraycopyName) = true) (hd : decode (jY k).2.1 pc = .ok (.invokestatic idx, 3)) {n dp sp : Int32} {o d' n0' n1 : Nat} {r : List Value} (h0 : j_sh S.1 o = some (100, n0')) (h1 : j_sh S.1 d' = some (100, n1)) (hn : ¬ (n < 0 ∨ sp < 0 ∨ dp < 0 ∨ n0' < sp.toNatClampNeg + n.toNatClampNeg ∨ n1 < dp.toNatClampNeg + n.toNatClampNeg ∨ o = d')) (h8 : Nat.ble (j_sum r) 8 = true) (kk : jK p l e R s m args below meth c Q dC dI dA τ A k n0 z0 (pc + 3) ls r (S.1, va_up S.2.1 d' (va_cpy (S.2.1 o) (S.2.1 d') sp.toNatClampNeg dp.toNatClampNeg n.toNatClampNeg), S.2.2)) : W p l e R s m args below meth c H locs cells slots Q (F0 m pc lsR ((.int n :: .int dp :: .ref d' :: .int sp :: .ref o :: r).map (tv τ))) := by
  obtain ⟨hx, hb, hml, hr, hlk, hown, hini, hts, hfx, hA, hf1, hf2, hstr⟩ := C
  have F0' := F
  obtain ⟨hP, hD, hS, hl, hle, hc1, hc2⟩ := F
  simp only [not_or, Nat.not_lt] at hn
  obtain ⟨g1, g2, g3, g4, g5, g6⟩ := hn
  refine va_copyi hx hb (hml.trans hl.2.1.symm) hown (hts _ (j_w_good hw rfl)) (hts _ wc_n) (hts _ wc_s) (hts _ wc_i) (j_ty hfx) hP hD hS o d' 0 0 (j_arr h0 (Or.inl rfl)) (j_arr h1 (Or.inl rfl)) rfl rfl rfl g2 g3 g1 g4 g5 (fun _ _ => rfl) (j_room3 hf1) (by rw [j_sum_tv]; exact j_room4 hf2 (Nat.le_of_ble_eq_true h8) (by decide)) hd (fun H1 locs1 hP1 hD1 hS1 => ?_)
  have hset := jws_set (dA := dA) (τ := τ) (S := S) (S' := (S.1, va_up S.2.1 d' (va_cpy (S.2.1 o) (S.2.1 d') sp.toNatClampNeg dp.toNatClampNeg n.toNatClampNeg), S.2.2)) (o := d') (x := .inl (dA (100 - 100), n1, .inl (va_cpy (S.2.1 o) (S.2.1 d') sp.toNatClampNeg dp.toNatClampNeg n.toNatClampNeg))) rfl h1 (fun i hi => va_up_ne _ _ hi) (fun i hi => rfl) (fun i hi => rfl) (by simp [jcell, va_up_self])
  rw [hset] at hP1 hD1
  exact kk lsR H1 locs1 cells slots (F0'.to rfl hP1 hD1 hS1 hl)
theorem js_objInit (C : jCx p l R s m args meth c dC dI dA τ A k d) (F : jFr s dC dI dA τ A k n0 z0 S ls lsR H locs cells slots) {idx w : Nat} (hw : j_w w (.methodLink (jY k).1.cls idx Lib.objectInit) = true) (hd : decode (jY k).2.1 pc = .ok (.invokespecial idx, 3)) {o : Nat} {r : List Value} (h8 : Nat.ble (j_sum r) 8 = true) (kk : jK p l e R s m args below meth c Q dC dI dA τ A k n0 z0 (pc + 3) ls r S) : W p l e R s m args below meth c H locs cells slots Q (F0 m pc lsR ((.ref o :: r).map (tv τ))) := by
  obtain ⟨hx, hb, hml, hr, hlk, hown, hini, hts, hfx, hA, hf1, hf2, hstr⟩ := C
  have F0' := F
  obtain ⟨hP, hD, hS, hl, hle, hc1, hc2⟩ := F
  have hroom := lv_room (m := m) (pc := pc) (ls := lsR) (rest := ((.ref o :: r).map (tv τ))) (st := r.map (tv τ)) (by rw [j_sum_tv]; exact Nat.le_of_ble_eq_true h8)
  exact W.objInit hx hb hown (hts _ (j_w_good hw rfl)) (hts _ wo_m) (hts _ wo_c) rfl (hl.2.1.trans hml.symm) rfl hd (j_room3 hf1) (j_room4 hf2 hroom (by decide)) (kk lsR H locs cells slots F0')
/-- a text's constant, the wide form -/
theorem j_ldcwS (hexec : p.tables.exec = Jvm.exec) {cc : ByteArray} (hb : c.code = cc) {own tx : String} {index q : Nat} {rest : List Value} (hown : s.vm.findClass own = some m.cls) (hZ : vk_R own index tx q s) (hdg : decode cc pc = .ok (.ldc_w index, 3)) (kk : W p l e R s m args below meth c H locs cells slots Q (F0 m (pc + 3) lsR (.ref q :: rest))) : W p l e R s m args below meth c H locs cells slots Q (F0 m pc lsR rest) := by
  intro T hT X
  obtain ⟨t, a1, b1⟩ := kk T hT X
  refine ⟨t, ?_, b1⟩
  obtain ⟨kc, cf, i, a', hk, hcf, hcp, -, hr, hev'⟩ := Cond.stringRef_spec hown hZ.1
  cases hZ.2.symm.trans hev'
  obtain ⟨k', hk', he⟩ := X.warmed.alike.2.2 _ _ hk
  have hr' : k'.resolved[index]? = some (some (.string q)) := by
    rcases X.warmed.entry hk hk' index with h | ⟨h, -⟩
    · rw [h]; exact hr
    · rw [hr] at h; cases h
  subst hb
  jvm_step X.here [hexec, hdg, ldc_w.wp_string (e := e) (s := T) (f := F0 m pc lsR rest) X.here.top hk' (by rw [he]; exact hcf) hcp hr']
  exact a1
theorem js_ldcS (C : jCx p l R s m args meth c dC dI dA τ A k d) (F : jFr s dC dI dA τ A k n0 z0 S ls lsR H locs cells slots) {idx o : Nat} (ho : 2000 ≤ o) (ho2 : o < 2014) (hq : jtxo.getD (o - 2000) ("", 0) = ((jY k).1.cls, idx)) (hd : decode (jY k).2.1 pc = .ok (.ldc idx, 2)) {r : List Value} (kk : jK p l e R s m args below meth c Q dC dI dA τ A k n0 z0 (pc + 2) ls (.ref o :: r) S) : W p l e R s m args below meth c H locs cells slots Q (F0 m pc lsR (r.map (tv τ))) := by
  obtain ⟨hx, hb, hml, hr, hlk, hown, hini, hts, hfx, hA, hf1, hf2, hstr⟩ := C
  have F0' := F
  obtain ⟨hP, hD, hS, hl, hle, hc1, hc2⟩ := F
  have hZ := hfx.2.2.2.1 (o - 2000) (by omega)
  rw [hq, show 2000 + (o - 2000) = o by omega] at hZ
  exact va_ldcS hx hb hown hZ hd (kk lsR H locs cells slots F0')
theorem js_ldcwS (C : jCx p l R s m args meth c dC dI dA τ A k d) (F : jFr s dC dI dA τ A k n0 z0 S ls lsR H locs cells slots) {idx o : Nat} (ho : 2000 ≤ o) (ho2 : o < 2014) (hq : jtxo.getD (o - 2000) ("", 0) = ((jY k).1.cls, idx)) (hd : decode (jY k).2.1 pc = .ok (.ldc_w idx, 3)) {r : List Value} (kk : jK p l e R s m args below meth c Q dC dI dA τ A k n0 z0 (pc + 3) ls (.ref o :: r) S) : W p l e R s m args below meth c H locs cells slots Q (F0 m pc lsR (r.map (tv τ))) := by
  obtain ⟨hx, hb, hml, hr, hlk, hown, hini, hts, hfx, hA, hf1, hf2, hstr⟩ := C
  have F0' := F
  obtain ⟨hP, hD, hS, hl, hle, hc1, hc2⟩ := F
  have hZ := hfx.2.2.2.1 (o - 2000) (by omega)
  rw [hq, show 2000 + (o - 2000) = o by omega] at hZ
  exact j_ldcwS hx hb hown hZ hd (kk lsR H locs cells slots F0')
theorem j_room5 {d X : Nat} (h : d + 8 ≤ X) : 7 + 1 ≤ X := by omega
theorem j_room6 {d X : Nat} (h : 42 * (d + 8) ≤ X) {L : Nat} (hL : L ≤ 23 := by decide) : 8 + (L + 11) + 294 ≤ X := by
  have h1 : 336 ≤ 42 * (d + 8) := by rw [Nat.mul_add]; exact Nat.le_add_left _ _
  generalize 42 * (d + 8) = z at h h1
  omega
theorem js_len (C : jCx p l R s m args meth c dC dI dA τ A k d) (F : jFr s dC dI dA τ A k n0 z0 S ls lsR H locs cells slots) {idx w : Nat} (hw : j_w w (.methodLink (jY k).1.cls idx ⟨"java/lang/String", "length", "()I"⟩) = true) (hd : decode (jY k).2.1 pc = .ok (.invokevirtual idx, 3)) (hr1 : cells ≤ R.cells) (hr2 : slots ≤ R.slots) {o : Nat} {i : Int32} {t : List Int32} (ho : 2000 ≤ o) (ht : jTT.2[o - 2000]? = some t)  {r : List Value} (h8 : Nat.ble (j_sum r) 8 = true) (kk : jK p l e R s m args below meth c Q dC dI dA τ A k n0 z0 (pc + 3) ls (.int (Int32.ofNat t.length) :: r) S) : W p l e R s m args below meth c H locs cells slots Q (F0 m pc lsR ((.ref o :: r).map (tv τ))) := by
  obtain ⟨hx, hb, hml, hr, hlk, hown, hini, hts, hfx, hA, hf1, hf2, hstr⟩ := C
  have F0' := F
  obtain ⟨hP, hD, hS, hl, hle, hc1, hc2⟩ := F
  have hlt : o - 2000 < 14 := (List.getElem?_eq_some_iff.mp ht).1
  have htd : jTT.2.getD (o - 2000) [] = t := by rw [List.getD_eq_getElem?_getD, ht]; rfl
  have hM := (hstr (o - 2000) hlt).1
  rw [htd, show 2000 + (o - 2000) = o by omega] at hM
  have hO := ((hfx.2.2.1.kept (fun a h1 h2 => hS.2.1 a h1 h2)).1 (o - 2000) hlt).1
  rw [show 2000 + (o - 2000) = o by omega] at hO
  obtain ⟨cellB, e1, e2, e3, -⟩ := hO
  have hroom := lv_room (m := m) (pc := pc) (ls := lsR) (rest := ((.ref o :: r).map (tv τ))) (st := r.map (tv τ)) (by rw [j_sum_tv]; exact Nat.le_of_ble_eq_true h8)
  refine j_asked (va_runV (C := "java/lang/String") (b := τ o) (As := []) (rest := r.map (tv τ)) (n := 0) ⟨hx, hb, hml, hown, hts⟩ hM ⟨callB_of 0 hts (j_good_cons wt_len_c) rfl rfl rfl (hts _ wt_i) (hts _ (j_w_good hw rfl)) ⟨by decide, by decide, by decide +kernel⟩ ⟨j_room5 hf1, j_room6 hf2⟩, hts _ wt_len_m, hts _ wt_len_s⟩ ⟨jTxt_blind, ⟨cellB, e1, e2, e3⟩, fun U hU hW => ⟨rfl, ?_⟩⟩ rfl rfl hl.2.1 rfl hroom hd ⟨hr1, hr2⟩) (kk lsR H locs cells slots F0')
  dsimp only
  rw [hU]
  exact (hfx.2.2.1.moved hW.alike).kept (fun a h1 h2 => hS.2.1 a h1 h2)
theorem js_cha (C : jCx p l R s m args meth c dC dI dA τ A k d) (F : jFr s dC dI dA τ A k n0 z0 S ls lsR H locs cells slots) {idx w : Nat} (hw : j_w w (.methodLink (jY k).1.cls idx ⟨"java/lang/String", "charAt", "(I)C"⟩) = true) (hd : decode (jY k).2.1 pc = .ok (.invokevirtual idx, 3)) (hr1 : cells ≤ R.cells) (hr2 : slots ≤ R.slots) {o : Nat} {i : Int32} {t : List Int32} (ho : 2000 ≤ o) (ht : jTT.2[o - 2000]? = some t) (hi : j_in i t.length = true) {r : List Value} (h8 : Nat.ble (j_sum r) 8 = true) (kk : jK p l e R s m args below meth c Q dC dI dA τ A k n0 z0 (pc + 3) ls (.int (t.getD i.toNatClampNeg 0 &&& 255) :: r) S) : W p l e R s m args below meth c H locs cells slots Q (F0 m pc lsR ((.int i :: .ref o :: r).map (tv τ))) := by
  obtain ⟨hx, hb, hml, hr, hlk, hown, hini, hts, hfx, hA, hf1, hf2, hstr⟩ := C
  have F0' := F
  obtain ⟨hP, hD, hS, hl, hle, hc1, hc2⟩ := F
  have hlt : o - 2000 < 14 := (List.getElem?_eq_some_iff.mp ht).1
  have htd : jTT.2.getD (o - 2000) [] = t := by rw [List.getD_eq_getElem?_getD, ht]; rfl
  have hM := (hstr (o - 2000) hlt).2.1 i (by rw [htd]; exact hi)
  rw [htd, show 2000 + (o - 2000) = o by omega] at hM
  have hO := ((hfx.2.2.1.kept (fun a h1 h2 => hS.2.1 a h1 h2)).1 (o - 2000) hlt).1
  rw [show 2000 + (o - 2000) = o by omega] at hO
  obtain ⟨cellB, e1, e2, e3, -⟩ := hO
  have hroom := lv_room (m := m) (pc := pc) (ls := lsR) (rest := ((.int i :: .ref o :: r).map (tv τ))) (st := r.map (tv τ)) (by rw [j_sum_tv]; exact Nat.le_of_ble_eq_true h8)
  refine j_asked (va_runV (C := "java/lang/String") (b := τ o) (As := [.int i]) (rest := r.map (tv τ)) (n := 1) ⟨hx, hb, hml, hown, hts⟩ hM ⟨callB_of 1 hts (j_good_cons wt_cha_c) rfl rfl rfl (hts _ wt_i) (hts _ (j_w_good hw rfl)) ⟨by decide, by decide, by decide +kernel⟩ ⟨j_room5 hf1, j_room6 hf2⟩, hts _ wt_cha_m, hts _ wt_cha_s⟩ ⟨jTxt_blind, ⟨cellB, e1, e2, e3⟩, fun U hU hW => ⟨rfl, ?_⟩⟩ rfl rfl hl.2.1 rfl hroom hd ⟨hr1, hr2⟩) (kk lsR H locs cells slots F0')
  dsimp only
  rw [hU]
  exact (hfx.2.2.1.moved hW.alike).kept (fun a h1 h2 => hS.2.1 a h1 h2)
theorem js_ixo (C : jCx p l R s m args meth c dC dI dA τ A k d) (F : jFr s dC dI dA τ A k n0 z0 S ls lsR H locs cells slots) {idx w : Nat} (hw : j_w w (.methodLink (jY k).1.cls idx ⟨"java/lang/String", "indexOf", "(I)I"⟩) = true) (hd : decode (jY k).2.1 pc = .ok (.invokevirtual idx, 3)) (hr1 : cells ≤ R.cells) (hr2 : slots ≤ R.slots) {o : Nat} {i : Int32} {t : List Int32} (ho : 2000 ≤ o) (ht : jTT.2[o - 2000]? = some t)  {r : List Value} (h8 : Nat.ble (j_sum r) 8 = true) (kk : jK p l e R s m args below meth c Q dC dI dA τ A k n0 z0 (pc + 3) ls (.int (j_ix i t 0) :: r) S) : W p l e R s m args below meth c H locs cells slots Q (F0 m pc lsR ((.int i :: .ref o :: r).map (tv τ))) := by
  obtain ⟨hx, hb, hml, hr, hlk, hown, hini, hts, hfx, hA, hf1, hf2, hstr⟩ := C
  have F0' := F
  obtain ⟨hP, hD, hS, hl, hle, hc1, hc2⟩ := F
  have hlt : o - 2000 < 14 := (List.getElem?_eq_some_iff.mp ht).1
  have htd : jTT.2.getD (o - 2000) [] = t := by rw [List.getD_eq_getElem?_getD, ht]; rfl
  have hM := (hstr (o - 2000) hlt).2.2 i
  rw [htd, show 2000 + (o - 2000) = o by omega] at hM
  have hO := ((hfx.2.2.1.kept (fun a h1 h2 => hS.2.1 a h1 h2)).1 (o - 2000) hlt).1
  rw [show 2000 + (o - 2000) = o by omega] at hO
  obtain ⟨cellB, e1, e2, e3, -⟩ := hO
  have hroom := lv_room (m := m) (pc := pc) (ls := lsR) (rest := ((.int i :: .ref o :: r).map (tv τ))) (st := r.map (tv τ)) (by rw [j_sum_tv]; exact Nat.le_of_ble_eq_true h8)
  refine j_asked (va_runV (C := "java/lang/String") (b := τ o) (As := [.int i]) (rest := r.map (tv τ)) (n := 1) ⟨hx, hb, hml, hown, hts⟩ hM ⟨callB_of 1 hts (j_good_cons wt_ixo_c) rfl rfl rfl (hts _ wt_i) (hts _ (j_w_good hw rfl)) ⟨by decide, by decide, by decide +kernel⟩ ⟨j_room5 hf1, j_room6 hf2⟩, hts _ wt_ixo_m, hts _ wt_ixo_s⟩ ⟨jTxt_blind, ⟨cellB, e1, e2, e3⟩, fun U hU hW => ⟨rfl, ?_⟩⟩ rfl rfl hl.2.1 rfl hroom hd ⟨hr1, hr2⟩) (kk lsR H locs cells slots F0')
  dsimp only
  rw [hU]
  exact (hfx.2.2.1.moved hW.alike).kept (fun a h1 h2 => hS.2.1 a h1 h2)
end JSTEP
