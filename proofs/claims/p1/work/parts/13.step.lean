/-! ONE INSTRUCTION: the machine does what the interpreter does -/
theorem j_bool {v : Int32} (h : vp_nar .boolean v = v) : narrow .boolean (.int v) = .int v ∧ fits .boolean (.int v) = true := by
  have h1 : v &&& 1 = v := h
  refine ⟨by show Value.int (v &&& 1) = _; rw [h1], ?_⟩
  have h2 : v = 0 ∨ v = 1 := by
    rw [← h1]
    have : ∀ b : BitVec 32, b &&& 1 = 0 ∨ b &&& 1 = 1 := by
      intro b
      have hb : b &&& 1 = b &&& 1#32 := rfl
      rw [hb, BitVec.and_one_eq_setWidth_ofBool_getLsbD]
      cases b.getLsbD 0
      · exact Or.inl rfl
      · exact Or.inr rfl
    rcases this v.toBitVec with q | q
    · exact Or.inl (Int32.toBitVec_inj.mp (by simpa using q))
    · exact Or.inr (Int32.toBitVec_inj.mp (by simpa using q))
  rcases h2 with rfl | rfl <;> rfl
theorem j_fs_set {τ : Nat → Nat} {S S' : jS} {ci o k N : Nat} {x : Value} (hx : jfv τ S' ci o k = x) (hne : ∀ j, j ≠ k → jfv τ S' ci o j = jfv τ S ci o j) : ((List.range N).map (jfv τ S ci o)).set k x = (List.range N).map (jfv τ S' ci o) := by
  apply List.ext_getElem?
  intro i
  rw [List.getElem?_set, List.getElem?_map, List.getElem?_map, List.length_map, List.length_range]
  by_cases hi : k = i
  · subst hi
    rw [if_pos rfl]
    by_cases hl : k < N
    · rw [if_pos hl, List.getElem?_range hl]; simp [hx]
    · rw [if_neg hl, List.getElem?_eq_none (by simp; omega)]; rfl
  · rw [if_neg hi]
    by_cases hl : i < N
    · rw [List.getElem?_range hl]; simp [hne i (fun q => hi q.symm)]
    · rw [List.getElem?_eq_none (by simp; omega)]; rfl
theorem j_up_ne {α : Type} (f : Nat → Nat → α) {a i : Nat} (k : Nat) (v : α) (h : i ≠ a) : j_up f a k v i = f i := by unfold j_up; exact va_up_ne _ _ h
theorem j_up_row {α : Type} (f : Nat → Nat → α) (a k : Nat) (v : α) : j_up f a k v a = va_up (f a) k v := by unfold j_up; exact va_up_self _ _ _
theorem j_obj {dA : Nat → ClassId} {τ : Nat → Nat} {S : jS} {o ci n : Nat} (h : j_sh S.1 o = some (ci, n)) (hc : ci < 100) : (jws dA τ S)[o]? = some (τ o, .inr (ci, (List.range n).map (jfv τ S ci o))) := by
  rw [jws_at h]; simp only [jcell, hc, if_true]
theorem j_arr {dA : Nat → ClassId} {τ : Nat → Nat} {S : jS} {o ci n : Nat} (h : j_sh S.1 o = some (ci, n)) (hc : ci = 100 ∨ ci = 101 ∨ ci = 102) : (jws dA τ S)[o]? = some (τ o, .inl (dA (ci - 100), n, .inl (S.2.1 o))) := by
  rw [jws_at h]; rcases hc with rfl | rfl | rfl <;> simp [jcell]
theorem j_arl {dA : Nat → ClassId} {τ : Nat → Nat} {S : jS} {o n : Nat} (h : j_sh S.1 o = some (103, n)) : (jws dA τ S)[o]? = some (τ o, .inl (dA 3, n, .inr (.inl (S.2.2.1 o)))) := by
  rw [jws_at h]; simp [jcell]
theorem j_arq {dA : Nat → ClassId} {τ : Nat → Nat} {S : jS} {o n : Nat} (h : j_sh S.1 o = some (104, n)) : (jws dA τ S)[o]? = some (τ o, .inl (dA 4, n, .inr (.inr (.inr (.inr (fun j => (S.2.2.2 o j).map τ)))))) := by
  rw [jws_at h]; simp [jcell]
theorem j_upd (f : Nat → Int32) (k : Nat) (v : Int32) : upd f k v = va_up f k v := rfl
theorem j_updL (f : Nat → Int64) (k : Nat) (v : Int64) : vp_updL f k v = va_up f k v := rfl
/-- the arrays' classes as the tables have them -/
theorem j_ty {dC : Nat → ClassId} {dI : Nat → Nat → Nat} {dA : Nat → ClassId} {τ : Nat → Nat} {A : Nat → Prop} {U : State} {H : Heap} (h : jFx dC dI dA τ A U H) : va_K (dC, dI) vwCl (jtl dA) U := h.1
theorem j_sum_eq (st : List Value) : (st.map fun v => v.category).sum = j_sum st := by
  induction st with
  | nil => rfl
  | cons v l ih => simp [j_sum, ih]
theorem j_sum_tv (τ : Nat → Nat) (st : List Value) : ((st.map (tv τ)).map fun v => v.category).sum = j_sum st := by
  rw [← j_sum_eq, List.map_map]
  congr 1
  exact List.map_congr_left (fun v _ => tv_cat τ v)
section JSTEP
variable {p : Program} {l : Launch} {e : Env} {R : Room} {s : State} {m : MethodId} {args : Array Value} {below : List Frame} {meth : Method} {c : Code} {Q : State → Prop}
variable {dC : Nat → ClassId} {dI : Nat → Nat → Nat} {dA : Nat → ClassId} {τ : Nat → Nat} {A : Nat → Prop} {k d n0 z0 : Nat}
variable {ls : jL} {S : jS} {lsR : Array Slot} {H : Heap} {locs : List Loc} {cells slots : Nat} {pc : Nat} {st : List Value}

/-- what is to be shown behind an instruction -/
def jK (p : Program) (l : Launch) (e : Env) (R : Room) (s : State) (m : MethodId) (args : Array Value) (below : List Frame) (meth : Method) (c : Code) (Q : State → Prop) (dC : Nat → ClassId) (dI : Nat → Nat → Nat) (dA : Nat → ClassId) (τ : Nat → Nat) (A : Nat → Prop) (k : Nat) (n0 z0 : Nat) (pc : Nat) (ls : jL) (st : List Value) (S : jS) : Prop := ∀ (lsR : Array Slot) (H : Heap) (locs : List Loc) (cells slots : Nat), jFr s dC dI dA τ A k n0 z0 S ls lsR H locs cells slots → W p l e R s m args below meth c H locs cells slots Q (F0 m pc lsR (st.map (tv τ)))
theorem js_get (C : jCx p l R s m args meth c dC dI dA τ A k d) (F : jFr s dC dI dA τ A k n0 z0 S ls lsR H locs cells slots) {idx ci kf tc q x : Nat} (hok : okF (jY k).1.cls idx [ci, kf, tc, q, x] = true) (hd : decode (jY k).2.1 pc = .ok (.getfield idx, 3)) {o n : Nat} (ho : j_sh S.1 o = some (ci, n)) (hn : kf < n) {v : Value} (hv : jfv τ S ci o kf = tv τ v) {r : List Value} (kk : jK p l e R s m args below meth c Q dC dI dA τ A k n0 z0 (pc + 3) ls (v :: r) S) : W p l e R s m args below meth c H locs cells slots Q (F0 m pc lsR ((.ref o :: r).map (tv τ))) := by
  obtain ⟨hx, hb, hml, hr, hlk, hown, hini, hts, hfx, hA, hf1, hf2, hstr⟩ := C
  have F' := F
  obtain ⟨hP, hD, hS, hl, hti, hc1, hc2⟩ := F
  simp only [okF] at hok
  split at hok
  · next Cn T N hc =>
    simp only [Bool.and_eq_true, decide_eq_true_eq] at hok
    obtain ⟨⟨⟨hk, hT⟩, htc⟩, hw⟩ := hok
    obtain ⟨c1, c2, c3, c4, c5, ty, c6, c7⟩ := jCl_of ci Cn T N hc
    have hw' := hts _ (j_w_good hw rfl)
    refine va_get hx hb hts c1 hown (j_ty hfx) hP o (j_obj ho c5) hc kf hk hw' (fun y hy => by rw [← hT]; exact hy) (v := tv τ v) ?_ hd (kk lsR H locs cells slots F')
    rw [List.getElem?_map, List.getElem?_range hn, Option.map_some, hv]
  · cases hok
theorem jFr.to (F : jFr s dC dI dA τ A k n0 z0 S ls lsR H locs cells slots) {S' : jS} {ls' : jL} {lsR' : Array Slot} {H1 : Heap} {locs1 : List Loc} (hs : S'.1 = S.1) (hP1 : va_P (dC, dI) vwCl (jws dA τ S') H1) (hD1 : va_D A (jws dA τ S')) (hS1 : va_S A s.heap H1 locs1) (hl1 : jLs τ ls' lsR' (jY k).2.2.1) : jFr s dC dI dA τ A k n0 z0 S' ls' lsR' H1 locs1 cells slots := ⟨hP1, hD1, hS1, hl1, by rw [hs]; exact F.2.2.2.2.1, by rw [hs]; exact F.2.2.2.2.2.1, by rw [hs]; exact F.2.2.2.2.2.2⟩
theorem js_put (C : jCx p l R s m args meth c dC dI dA τ A k d) (F : jFr s dC dI dA τ A k n0 z0 S ls lsR H locs cells slots) {idx ci kf tc q x : Nat} (hok : okF (jY k).1.cls idx [ci, kf, tc, q, x] = true) (hfi : ∀ C T N, vwCl[ci]? = some (C, T, N) → (T kf).2.2.2 = true → (jY k).1.name = "<init>" ∧ (jY k).1.cls = C) (hd : decode (jY k).2.1 pc = .ok (.putfield idx, 3)) {o n : Nat} (ho : j_sh S.1 o = some (ci, n)) (hn : kf < n) {v : Value} (hnf : ∀ ty, tcOk tc ty = true → narrow ty (tv τ v) = tv τ v ∧ fits ty (tv τ v) = true) {S' : jS} (hs : S'.1 = S.1) (h1 : ∀ i, i ≠ o → S'.2.1 i = S.2.1 i) (h2 : ∀ i, i ≠ o → S'.2.2.1 i = S.2.2.1 i) (h3 : ∀ i, i ≠ o → S'.2.2.2 i = S.2.2.2 i) (hxx : jty ci kf = tc → jfv τ S' ci o kf = tv τ v) (hne : ∀ j, j ≠ kf → jfv τ S' ci o j = jfv τ S ci o j) {r : List Value} (kk : jK p l e R s m args below meth c Q dC dI dA τ A k n0 z0 (pc + 3) ls r S') : W p l e R s m args below meth c H locs cells slots Q (F0 m pc lsR ((v :: .ref o :: r).map (tv τ))) := by
  obtain ⟨hx, hb, hml, hr, hlk, hown, hini, hts, hfx, hA, hf1, hf2, hstr⟩ := C
  have F0' := F
  obtain ⟨hP, hD, hS, hl, hle, hc1, hc2⟩ := F
  simp only [okF] at hok
  split at hok
  · next Cn T N hc =>
    simp only [Bool.and_eq_true, decide_eq_true_eq] at hok
    obtain ⟨⟨⟨hk, hT⟩, htc⟩, hw⟩ := hok
    obtain ⟨c1, c2, c3, c4, c5, ty, c6, c7⟩ := jCl_of ci Cn T N hc
    have hw' := hts _ (j_w_good hw rfl)
    have c8 := c7 kf hk
    rw [htc] at c8
    obtain ⟨g1, g2⟩ := hnf _ c8
    have hset : (jws dA τ S).set o (τ o, .inr (ci, ((List.range n).map (jfv τ S ci o)).set kf (tv τ v))) = jws dA τ S' := by
      refine jws_set hs ho h1 h2 h3 ?_
      rw [j_fs_set (hxx htc) hne]
      simp only [jcell, c5, if_true]
    cases hfin : (T kf).2.2.2 with
    | false =>
      refine va_put hx hb hts c1 ty c6 c4 hown (j_ty hfx) hP hD hS o (j_obj ho c5) hc kf hk hw' (fun y hy => by rw [← hT]; exact hy) hfin (c6 kf hk) g1 g2 (by simpa using hn) hd (fun H1 locs1 hP1 hD1 hS1 => ?_)
      rw [hset] at hP1 hD1
      exact kk lsR H1 locs1 cells slots (F0'.to hs hP1 hD1 hS1 hl)
    | true =>
      obtain ⟨i1, i2⟩ := hfi Cn T N hc hfin
      refine va_putF hx hb hts c1 ty c6 c4 hown (j_ty hfx) hP hD hS o (j_obj ho c5) hc kf hk hw' (fun y hy => by rw [← hT]; exact hy) hfin (hini i1) (by rw [hT, i2]) (c6 kf hk) g1 g2 (by simpa using hn) hd (fun H1 locs1 hP1 hD1 hS1 => ?_)
      rw [hset] at hP1 hD1
      exact kk lsR H1 locs1 cells slots (F0'.to hs hP1 hD1 hS1 hl)
  · cases hok
theorem js_gets0 (C : jCx p l R s m args meth c dC dI dA τ A k d) (F : jFr s dC dI dA τ A k n0 z0 S ls lsR H locs cells slots) {idx q w : Nat} (hq : q < 7) (hw : j_w w (.fieldLink (jY k).1.cls idx "ShipYard" (jsn.getD q "") "[I") = true) (hd : decode (jY k).2.1 pc = .ok (.getstatic idx, 3)) {r : List Value} (kk : jK p l e R s m args below meth c Q dC dI dA τ A k n0 z0 (pc + 3) ls (.ref (1000 + q) :: r) S) : W p l e R s m args below meth c H locs cells slots Q (F0 m pc lsR (r.map (tv τ))) := by
  obtain ⟨hx, hb, hml, hr, hlk, hown, hini, hts, hfx, hA, hf1, hf2, hstr⟩ := C
  have F0' := F
  obtain ⟨hP, hD, hS, hl, hle, hc1, hc2⟩ := F
  exact va_gets hx hb (hfx.2.1 q hq).1 hS hown (hts _ (j_w_good hw rfl)) (fun _ h => h) hd (kk lsR H locs cells slots F0')
theorem js_gets1 (C : jCx p l R s m args meth c dC dI dA τ A k d) (F : jFr s dC dI dA τ A k n0 z0 S ls lsR H locs cells slots) {idx q w : Nat} (hq : q < 7) (hw : j_w w (.fieldLinkNest (jY k).1.cls idx "ShipYard" (jsn.getD q "") "[I" "ShipYard") = true) (hd : decode (jY k).2.1 pc = .ok (.getstatic idx, 3)) {r : List Value} (kk : jK p l e R s m args below meth c Q dC dI dA τ A k n0 z0 (pc + 3) ls (.ref (1000 + q) :: r) S) : W p l e R s m args below meth c H locs cells slots Q (F0 m pc lsR (r.map (tv τ))) := by
  obtain ⟨hx, hb, hml, hr, hlk, hown, hini, hts, hfx, hA, hf1, hf2, hstr⟩ := C
  have F0' := F
  obtain ⟨hP, hD, hS, hl, hle, hc1, hc2⟩ := F
  exact va_getsN hx hb (hfx.2.1 q hq).1 hS hown (va_Nw.use rfl (hfx.2.2.2.2.1 _ (j_w_nestF hw))) (fun _ h => h) hd (kk lsR H locs cells slots F0')
theorem js_ia (C : jCx p l R s m args meth c dC dI dA τ A k d) (F : jFr s dC dI dA τ A k n0 z0 S ls lsR H locs cells slots) (hd : decode (jY k).2.1 pc = .ok (.iaload, 1)) {i : Int32} {o : Nat} {r : List Value} (hh : j_ia jTT False S o i (fun v => jK p l e R s m args below meth c Q dC dI dA τ A k n0 z0 (pc + 1) ls (.int v :: r) S)) : W p l e R s m args below meth c H locs cells slots Q (F0 m pc lsR ((.int i :: .ref o :: r).map (tv τ))) := by
  obtain ⟨hx, hb, hml, hr, hlk, hown, hini, hts, hfx, hA, hf1, hf2, hstr⟩ := C
  have F0' := F
  obtain ⟨hP, hD, hS, hl, hle, hc1, hc2⟩ := F
  simp only [j_ia] at hh
  split at hh
  · next n ho =>
    split at hh
    · next hi => exact va_iald hx hb (j_ty hfx) hP o 0 (j_arr ho (Or.inl rfl)) rfl (j_in_vp hi) hd (hh lsR H locs cells slots F0')
    · exact hh.elim
  · exact hh.elim
  · split at hh
    · next w hw =>
      cases hb1 : Nat.ble 1000 o with
      | false => rw [hb1] at hh; exact hh.elim
      | true =>
        rw [hb1] at hh
        dsimp only [cond] at hh
        split at hh
        · next hi =>
          have hge : 1000 ≤ o := Nat.le_of_ble_eq_true hb1
          have hlt : o - 1000 < 7 := (List.getElem?_eq_some_iff.mp hw).1
          have hT := (hfx.2.1 (o - 1000) hlt).2
          rw [show 1000 + (o - 1000) = o by omega, List.getD_eq_getElem?_getD, hw] at hT
          exact va_ti hx hb hT hS (j_in_vp hi) rfl hd (hh lsR H locs cells slots F0')
        · exact hh.elim
    · exact hh.elim
theorem js_ba (C : jCx p l R s m args meth c dC dI dA τ A k d) (F : jFr s dC dI dA τ A k n0 z0 S ls lsR H locs cells slots) (hd : decode (jY k).2.1 pc = .ok (.baload, 1)) {i : Int32} {o : Nat} {r : List Value} (hh : j_ba False S o i (fun v => jK p l e R s m args below meth c Q dC dI dA τ A k n0 z0 (pc + 1) ls (.int v :: r) S)) : W p l e R s m args below meth c H locs cells slots Q (F0 m pc lsR ((.int i :: .ref o :: r).map (tv τ))) := by
  obtain ⟨hx, hb, hml, hr, hlk, hown, hini, hts, hfx, hA, hf1, hf2, hstr⟩ := C
  have F0' := F
  obtain ⟨hP, hD, hS, hl, hle, hc1, hc2⟩ := F
  simp only [j_ba] at hh
  split at hh
  · next n ho =>
    split at hh
    · next hi => exact va_bald hx hb (j_ty hfx) hP o 1 (j_arr ho (Or.inr (Or.inl rfl))) rfl (j_in_vp hi) hd (hh lsR H locs cells slots F0')
    · exact hh.elim
  · next n ho =>
    split at hh
    · next hi => exact va_zald hx hb (j_ty hfx) hP o 2 (j_arr ho (Or.inr (Or.inr rfl))) rfl (j_in_vp hi) hd (hh lsR H locs cells slots F0')
    · exact hh.elim
  · exact hh.elim
theorem js_la (C : jCx p l R s m args meth c dC dI dA τ A k d) (F : jFr s dC dI dA τ A k n0 z0 S ls lsR H locs cells slots) (hd : decode (jY k).2.1 pc = .ok (.laload, 1)) {i : Int32} {o : Nat} {r : List Value} (hh : j_la False S o i (fun v => jK p l e R s m args below meth c Q dC dI dA τ A k n0 z0 (pc + 1) ls (.long v :: r) S)) : W p l e R s m args below meth c H locs cells slots Q (F0 m pc lsR ((.int i :: .ref o :: r).map (tv τ))) := by
  obtain ⟨hx, hb, hml, hr, hlk, hown, hini, hts, hfx, hA, hf1, hf2, hstr⟩ := C
  have F0' := F
  obtain ⟨hP, hD, hS, hl, hle, hc1, hc2⟩ := F
  simp only [j_la] at hh
  split at hh
  · next n ho =>
    split at hh
    · next hi => exact va_lald hx hb (j_ty hfx) hP o 3 (j_arl ho) rfl (j_in_vp hi) hd (hh lsR H locs cells slots F0')
    · exact hh.elim
  · exact hh.elim
theorem js_aa (C : jCx p l R s m args meth c dC dI dA τ A k d) (F : jFr s dC dI dA τ A k n0 z0 S ls lsR H locs cells slots) (hd : decode (jY k).2.1 pc = .ok (.aaload, 1)) {i : Int32} {o : Nat} {r : List Value} (hh : j_aa False S o i (fun v => jK p l e R s m args below meth c Q dC dI dA τ A k n0 z0 (pc + 1) ls (v :: r) S)) : W p l e R s m args below meth c H locs cells slots Q (F0 m pc lsR ((.int i :: .ref o :: r).map (tv τ))) := by
  obtain ⟨hx, hb, hml, hr, hlk, hown, hini, hts, hfx, hA, hf1, hf2, hstr⟩ := C
  have F0' := F
  obtain ⟨hP, hD, hS, hl, hle, hc1, hc2⟩ := F
  simp only [j_aa] at hh
  split at hh
  · next n ho =>
    split at hh
    · next hi =>
      refine va_aldq hx hb (j_ty hfx) hP o 4 (j_arq ho) rfl (j_in_vp hi) hd ?_
      have h1 := hh lsR H locs cells slots F0'
      rw [List.map_cons, tv_rf] at h1
      exact h1
    · exact hh.elim
  · exact hh.elim
theorem js_is (C : jCx p l R s m args meth c dC dI dA τ A k d) (F : jFr s dC dI dA τ A k n0 z0 S ls lsR H locs cells slots) (hd : decode (jY k).2.1 pc = .ok (.iastore, 1)) {i : Int32} {v : Int32} {o : Nat} {r : List Value} (hh : j_is False S o i v (fun S' => jK p l e R s m args below meth c Q dC dI dA τ A k n0 z0 (pc + 1) ls r S')) : W p l e R s m args below meth c H locs cells slots Q (F0 m pc lsR ((.int v :: .int i :: .ref o :: r).map (tv τ))) := by
  obtain ⟨hx, hb, hml, hr, hlk, hown, hini, hts, hfx, hA, hf1, hf2, hstr⟩ := C
  have F0' := F
  obtain ⟨hP, hD, hS, hl, hle, hc1, hc2⟩ := F
  simp only [j_is] at hh
  split at hh
  · next n ho =>
    split at hh
    · next hi =>
      refine va_iast hx hb (j_ty hfx) hP hD hS o 0 (j_arr ho (Or.inl rfl)) rfl (j_in_vp hi) hd (fun H1 locs1 hP1 hD1 hS1 => ?_)
      have hset := jws_set (dA := dA) (τ := τ) (S := S) (S' := (S.1, j_up S.2.1 o i.toNatClampNeg v, S.2.2)) (o := o) (x := .inl (dA (100 - 100), n, .inl (upd (S.2.1 o) i.toNatClampNeg v))) rfl ho (fun i hi => j_up_ne _ _ _ hi) (fun i hi => rfl) (fun i hi => rfl) (by rw [j_upd]; simp [jcell, j_up_row])
      rw [hset] at hP1 hD1
      exact hh lsR H1 locs1 cells slots (F0'.to rfl hP1 hD1 hS1 hl)
    · exact hh.elim
  · exact hh.elim
theorem js_bs (C : jCx p l R s m args meth c dC dI dA τ A k d) (F : jFr s dC dI dA τ A k n0 z0 S ls lsR H locs cells slots) (hd : decode (jY k).2.1 pc = .ok (.bastore, 1)) {i : Int32} {v : Int32} {o : Nat} {r : List Value} (hh : j_bs False S o i v (fun S' => jK p l e R s m args below meth c Q dC dI dA τ A k n0 z0 (pc + 1) ls r S')) : W p l e R s m args below meth c H locs cells slots Q (F0 m pc lsR ((.int v :: .int i :: .ref o :: r).map (tv τ))) := by
  obtain ⟨hx, hb, hml, hr, hlk, hown, hini, hts, hfx, hA, hf1, hf2, hstr⟩ := C
  have F0' := F
  obtain ⟨hP, hD, hS, hl, hle, hc1, hc2⟩ := F
  simp only [j_bs] at hh
  split at hh
  · next n ho =>
    split at hh
    · next hi =>
      refine va_bast hx hb (j_ty hfx) hP hD hS o 1 (j_arr ho (Or.inr (Or.inl rfl))) rfl (j_in_vp hi) hd (fun H1 locs1 hP1 hD1 hS1 => ?_)
      have hset := jws_set (dA := dA) (τ := τ) (S := S) (S' := (S.1, j_up S.2.1 o i.toNatClampNeg (vp_nar .byte v), S.2.2)) (o := o) (x := .inl (dA (101 - 100), n, .inl (upd (S.2.1 o) i.toNatClampNeg (vp_nar .byte v)))) rfl ho (fun i hi => j_up_ne _ _ _ hi) (fun i hi => rfl) (fun i hi => rfl) (by rw [j_upd]; simp [jcell, j_up_row])
      rw [hset] at hP1 hD1
      exact hh lsR H1 locs1 cells slots (F0'.to rfl hP1 hD1 hS1 hl)
    · exact hh.elim
  · next n ho =>
    split at hh
    · next hi =>
      refine va_zast hx hb (j_ty hfx) hP hD hS o 2 (j_arr ho (Or.inr (Or.inr rfl))) rfl (j_in_vp hi) hd (fun H1 locs1 hP1 hD1 hS1 => ?_)
      have hset := jws_set (dA := dA) (τ := τ) (S := S) (S' := (S.1, j_up S.2.1 o i.toNatClampNeg (vp_nar .boolean v), S.2.2)) (o := o) (x := .inl (dA (102 - 100), n, .inl (upd (S.2.1 o) i.toNatClampNeg (vp_nar .boolean v)))) rfl ho (fun i hi => j_up_ne _ _ _ hi) (fun i hi => rfl) (fun i hi => rfl) (by rw [j_upd]; simp [jcell, j_up_row])
      rw [hset] at hP1 hD1
      exact hh lsR H1 locs1 cells slots (F0'.to rfl hP1 hD1 hS1 hl)
    · exact hh.elim
  · exact hh.elim
theorem js_ls (C : jCx p l R s m args meth c dC dI dA τ A k d) (F : jFr s dC dI dA τ A k n0 z0 S ls lsR H locs cells slots) (hd : decode (jY k).2.1 pc = .ok (.lastore, 1)) {i : Int32} {v : Int64} {o : Nat} {r : List Value} (hh : j_lst False S o i v (fun S' => jK p l e R s m args below meth c Q dC dI dA τ A k n0 z0 (pc + 1) ls r S')) : W p l e R s m args below meth c H locs cells slots Q (F0 m pc lsR ((.long v :: .int i :: .ref o :: r).map (tv τ))) := by
  obtain ⟨hx, hb, hml, hr, hlk, hown, hini, hts, hfx, hA, hf1, hf2, hstr⟩ := C
  have F0' := F
  obtain ⟨hP, hD, hS, hl, hle, hc1, hc2⟩ := F
  simp only [j_lst] at hh
  split at hh
  · next n ho =>
    split at hh
    · next hi =>
      refine va_last hx hb (j_ty hfx) hP hD hS o 3 (j_arl ho) rfl (j_in_vp hi) hd (fun H1 locs1 hP1 hD1 hS1 => ?_)
      have hset := jws_set (dA := dA) (τ := τ) (S := S) (S' := (S.1, S.2.1, j_up S.2.2.1 o i.toNatClampNeg v, S.2.2.2)) (o := o) (x := .inl (dA 3, n, .inr (.inl (vp_updL (S.2.2.1 o) i.toNatClampNeg v)))) rfl ho (fun i hi => rfl) (fun i hi => j_up_ne _ _ _ hi) (fun i hi => rfl) (by rw [j_updL]; simp [jcell, j_up_row])
      rw [hset] at hP1 hD1
      exact hh lsR H1 locs1 cells slots (F0'.to rfl hP1 hD1 hS1 hl)
    · exact hh.elim
  · exact hh.elim
theorem js_as (C : jCx p l R s m args meth c dC dI dA τ A k d) (F : jFr s dC dI dA τ A k n0 z0 S ls lsR H locs cells slots) (hd : decode (jY k).2.1 pc = .ok (.aastore, 1)) {i : Int32} {v o : Nat} {r : List Value} (hh : j_as False S o i v (fun S' => jK p l e R s m args below meth c Q dC dI dA τ A k n0 z0 (pc + 1) ls r S')) : W p l e R s m args below meth c H locs cells slots Q (F0 m pc lsR ((.ref v :: .int i :: .ref o :: r).map (tv τ))) := by
  obtain ⟨hx, hb, hml, hr, hlk, hown, hini, hts, hfx, hA, hf1, hf2, hstr⟩ := C
  have F0' := F
  obtain ⟨hP, hD, hS, hl, hle, hc1, hc2⟩ := F
  simp only [j_as] at hh
  split at hh
  · next n n2 ho hv =>
    split at hh
    · next hi =>
      refine va_astq (r := (RX4, TX4, 6)) hx hb (j_ty hfx) hP hD hS o 4 v 4 (j_arq ho) rfl (j_obj hv (by decide)) rfl (j_in_vp hi) hd (fun H1 locs1 hP1 hD1 hS1 => ?_)
      have hset := jws_set (dA := dA) (τ := τ) (S := S) (S' := (S.1, S.2.1, S.2.2.1, j_up S.2.2.2 o i.toNatClampNeg (some v))) (o := o) (x := .inl (dA 4, n, .inr (.inr (.inr (.inr (va_up (fun j => (S.2.2.2 o j).map τ) i.toNatClampNeg (some (τ v)))))))) rfl ho (fun i hi => rfl) (fun i hi => rfl) (fun i hi => j_up_ne _ _ _ hi) (by
        have hf : va_up (fun j => (S.2.2.2 o j).map τ) i.toNatClampNeg (some (τ v)) = fun j => (j_up S.2.2.2 o i.toNatClampNeg (some v) o j).map τ := by
          funext j
          rw [j_up_row]
          by_cases hj : j = i.toNatClampNeg <;> simp [va_up, hj]
        rw [hf]
        simp [jcell])
      rw [hset] at hP1 hD1
      exact hh lsR H1 locs1 cells slots (F0'.to rfl hP1 hD1 hS1 hl)
    · exact hh.elim
  · exact hh.elim
theorem js_al (C : jCx p l R s m args meth c dC dI dA τ A k d) (F : jFr s dC dI dA τ A k n0 z0 S ls lsR H locs cells slots) (hd : decode (jY k).2.1 pc = .ok (.arraylength, 1)) {o : Nat} {r : List Value} (hh : j_al jTT False S o (fun v => jK p l e R s m args below meth c Q dC dI dA τ A k n0 z0 (pc + 1) ls (.int v :: r) S)) : W p l e R s m args below meth c H locs cells slots Q (F0 m pc lsR ((.ref o :: r).map (tv τ))) := by
  obtain ⟨hx, hb, hml, hr, hlk, hown, hini, hts, hfx, hA, hf1, hf2, hstr⟩ := C
  have F0' := F
  obtain ⟨hP, hD, hS, hl, hle, hc1, hc2⟩ := F
  simp only [j_al] at hh
  split at hh
  · next cn n ho =>
    cases hb1 : (Nat.ble 100 cn && Nat.ble cn 104) with
    | false => rw [hb1] at hh; exact hh.elim
    | true =>
      rw [hb1] at hh
      simp only [Bool.and_eq_true] at hb1
      have h1 := Nat.le_of_ble_eq_true hb1.1
      have h2 := Nat.le_of_ble_eq_true hb1.2
      have hk := hh lsR H locs cells slots F0'
      rcases (show cn = 100 ∨ cn = 101 ∨ cn = 102 ∨ cn = 103 ∨ cn = 104 by omega) with rfl | rfl | rfl | rfl | rfl
      · exact va_alen hx hb (j_ty hfx) hP o 0 (j_arr ho (Or.inl rfl)) rfl rfl hd hk
      · exact va_alen hx hb (j_ty hfx) hP o 1 (j_arr ho (Or.inr (Or.inl rfl))) rfl rfl hd hk
      · exact va_alen hx hb (j_ty hfx) hP o 2 (j_arr ho (Or.inr (Or.inr rfl))) rfl rfl hd hk
      · exact va_alen hx hb (j_ty hfx) hP o 3 (j_arl ho) rfl rfl hd hk
      · exact va_alen hx hb (j_ty hfx) hP o 4 (j_arq ho) rfl rfl hd hk
  · split at hh
    · next w hw =>
      cases hb1 : Nat.ble 1000 o with
      | false => rw [hb1] at hh; exact hh.elim
      | true =>
        rw [hb1] at hh
        dsimp only [cond] at hh
        have hge : 1000 ≤ o := Nat.le_of_ble_eq_true hb1
        have hlt : o - 1000 < 7 := (List.getElem?_eq_some_iff.mp hw).1
        have hT := (hfx.2.1 (o - 1000) hlt).2
        rw [show 1000 + (o - 1000) = o by omega, List.getD_eq_getElem?_getD, hw] at hT
        exact va_tlen hx hb hT hS rfl hd (hh lsR H locs cells slots F0')
    · exact hh.elim
end JSTEP
