/-! NEW CELLS, CALLS, WHAT IS DONE AT ONE STROKE -/
theorem wt_len_m : Jvm.Cond.instanceMethod ⟨"java/lang/String", "length", "()I"⟩ ∈ jgood := j_w_good (p := 319) (by decide +kernel) (by decide +kernel)
theorem wt_len_s : Jvm.Cond.selects "java/lang/String" ⟨"java/lang/String", "length", "()I"⟩ ⟨"java/lang/String", "length", "()I"⟩ ∈ jgood := j_w_good (p := 320) (by decide +kernel) (by decide +kernel)
theorem wt_len_c : Jvm.Cond.code ⟨"java/lang/String", "length", "()I"⟩ cJ0_length_8abf5 1 (some .int) ∈ jgood := j_w_good (p := 321) (by decide +kernel) (by decide +kernel)
theorem wt_cha_m : Jvm.Cond.instanceMethod ⟨"java/lang/String", "charAt", "(I)C"⟩ ∈ jgood := j_w_good (p := 329) (by decide +kernel) (by decide +kernel)
theorem wt_cha_s : Jvm.Cond.selects "java/lang/String" ⟨"java/lang/String", "charAt", "(I)C"⟩ ⟨"java/lang/String", "charAt", "(I)C"⟩ ∈ jgood := j_w_good (p := 330) (by decide +kernel) (by decide +kernel)
theorem wt_cha_c : Jvm.Cond.code ⟨"java/lang/String", "charAt", "(I)C"⟩ cJ0_charAt_5068e 2 (some .char) ∈ jgood := j_w_good (p := 331) (by decide +kernel) (by decide +kernel)
theorem wt_ixo_m : Jvm.Cond.instanceMethod ⟨"java/lang/String", "indexOf", "(I)I"⟩ ∈ jgood := j_w_good (p := 1116) (by decide +kernel) (by decide +kernel)
theorem wt_ixo_s : Jvm.Cond.selects "java/lang/String" ⟨"java/lang/String", "indexOf", "(I)I"⟩ ⟨"java/lang/String", "indexOf", "(I)I"⟩ ∈ jgood := j_w_good (p := 1117) (by decide +kernel) (by decide +kernel)
theorem wt_ixo_c : Jvm.Cond.code ⟨"java/lang/String", "indexOf", "(I)I"⟩ cJ0_indexOf_0f7a4 2 (some .int) ∈ jgood := j_w_good (p := 1118) (by decide +kernel) (by decide +kernel)
theorem wt_i : Jvm.Cond.initialized "java/lang/String" ∈ jgood := j_w_good (p := 210) (by decide +kernel) (by decide +kernel)
theorem j_good_cons {w : Jvm.Cond} (h : w ∈ jgood) : GoodIn jgood (w :: jgood) := by
  intro x hx
  rcases List.mem_cons.mp hx with rfl | hx
  · exact ⟨h, good_of_word (jgood_ok _ h)⟩
  · exact jgood_self x hx
theorem j_pop_eq : ∀ (n : Nat) (st acc as r : List Value), j_pop n st acc = some (as, r) → ∃ bs : List Value, bs.length = n ∧ as = bs.reverse ++ acc ∧ st = bs ++ r := by
  intro n
  induction n with
  | zero => intro st acc as r h; simp only [j_pop] at h; cases h; exact ⟨[], rfl, rfl, rfl⟩
  | succ n ih =>
    intro st acc as r h
    cases st with
    | nil => simp [j_pop] at h
    | cons v st =>
      simp only [j_pop] at h
      obtain ⟨bs, h1, h2, h3⟩ := ih st (v :: acc) as r h
      exact ⟨v :: bs, by simp [h1], by rw [h2]; simp, by rw [h3]; rfl⟩
theorem j_pop_of {n : Nat} {st as r : List Value} (h : j_pop n st [] = some (as, r)) : as.length = n ∧ st = as.reverse ++ r := by
  obtain ⟨bs, h1, h2, h3⟩ := j_pop_eq n st [] as r h
  rw [List.append_nil] at h2
  subst h2
  exact ⟨by simp [h1], by rw [List.reverse_reverse]; exact h3⟩
/-- what the words say of a method that is called -/
theorem okM_of {k : Nat} (h : okM k = true) : Jvm.Cond.code (jY k).1 (jY k).2.1 (jY k).2.2.1 (jY k).2.2.2 ∈ jgood ∧ Jvm.Cond.initialized (jY k).1.cls ∈ jgood ∧ plainName (jY k).1.cls = true ∧ (jY k).1.cls ≠ "java/lang/invoke/MethodHandle" ∧ (jY k).1.cls ≠ "java/lang/invoke/VarHandle" ∧ (jY k).2.2.1 ≤ 23 ∧ (jMM k).2 = (jY k).2.2.1 ∧
    ((jpos.getD k []).getD 4 9 = 0 → Jvm.Cond.static (jY k).1 ∈ jgood) ∧ ((jpos.getD k []).getD 4 9 = 1 → Jvm.Cond.instanceMethod (jY k).1 ∈ jgood ∧ Jvm.Cond.selects (jY k).1.cls (jY k).1 (jY k).1 ∈ jgood) ∧ ((jpos.getD k []).getD 4 9 = 2 → Jvm.Cond.instanceMethod (jY k).1 ∈ jgood) := by
  simp only [okM] at h
  split at h
  · next pc pi ps pn kind hp =>
    simp only [Bool.and_eq_true, decide_eq_true_eq] at h
    obtain ⟨⟨⟨⟨⟨⟨⟨h1, h2⟩, h3⟩, h4⟩, h5⟩, h6⟩, h7⟩, h8⟩ := h
    refine ⟨j_w_good h1 rfl, j_w_good h2 rfl, h3, h4, h5, Nat.le_of_ble_eq_true h6, h7, ?_, ?_, ?_⟩ <;> rw [hp] <;> intro hk <;> have hk : kind = _ := hk <;> subst hk
    · exact j_w_good h8 rfl
    · simp only [Bool.and_eq_true] at h8
      exact ⟨j_w_good h8.1 rfl, j_w_good h8.2 rfl⟩
    · exact j_w_good h8 rfl
  · cases h
theorem j_room1 {d d' X : Nat} (h2 : d = d' + 1) (h3 : d + 8 ≤ X) : d' + 8 + 1 ≤ X := by omega
theorem j_room2 {L d d' X : Nat} (h1 : L ≤ 23) (h2 : d = d' + 1) (h3 : 42 * (d + 8) ≤ X) : 8 + (L + 11) + 42 * (d' + 8) ≤ X := by
  subst h2
  have h4 : 42 * (d' + 1 + 8) = 42 * (d' + 8) + 42 := by rw [Nat.mul_add, Nat.mul_add, Nat.mul_add]
  rw [h4] at h3
  generalize 42 * (d' + 8) = y at h3 ⊢
  omega
section JSTEP
variable {p : Program} {l : Launch} {e : Env} {R : Room} {s : State} {m : MethodId} {args : Array Value} {below : List Frame} {meth : Method} {c : Code} {Q : State → Prop}
variable {dC : Nat → ClassId} {dI : Nat → Nat → Nat} {dA : Nat → ClassId} {τ : Nat → Nat} {A : Nat → Prop} {k d n0 z0 : Nat}
variable {ls : jL} {S : jS} {lsR : Array Slot} {H : Heap} {locs : List Loc} {cells slots : Nat} {pc : Nat} {st : List Value}

/-- a cell more -/
theorem jFr.push (F : jFr s dC dI dA τ A k n0 z0 S ls lsR H locs cells slots) (ht : jTi τ S.1.length H) {S' : jS} {kn : Nat × Nat} {H1 : Heap} (hs : S'.1 = S.1 ++ [kn]) (h1 : ∀ i, i ≠ S.1.length → S'.2.1 i = S.2.1 i) (h2 : ∀ i, i ≠ S.1.length → S'.2.2.1 i = S.2.2.1 i) (h3 : ∀ i, i ≠ S.1.length → S'.2.2.2 i = S.2.2.2 i) (z1 : H1.size = H.size + 1) (o1 : ∀ q, q < H.size → H1[q]? = H[q]?) (hat : va_at (dC, dI) vwCl (H.size, jcell dA τ S' S.1.length kn) H1) (hA : ∀ q, s.heap.size ≤ q → A q) (h9 : S.1.length ≤ 900) : jFr s dC dI dA τ A k n0 z0 S' ls lsR H1 locs (cells + 1) (slots + kn.2) := by
  obtain ⟨hP, hD, hS, hl, hle, hc1, hc2⟩ := F
  have hτ : H.size = τ S.1.length := by rw [ht.2 _ (by omega)]; exact ht.1
  have hk : ∀ (k : Nat) (x : Nat × va_E), (jws dA τ S)[k]? = some x → H1[x.1]? = H[x.1]? := fun k x hx => o1 x.1 ((hP k x hx).lt)
  have hp := jws_push (dA := dA) (τ := τ) (S := S) (S' := S') (kn := kn) hs h1 h2 h3 rfl
  have hP1 : va_P (dC, dI) vwCl (jws dA τ S ++ [(τ S.1.length, jcell dA τ S' S.1.length kn)]) H1 := (hP.kept hk).app (fun j x hx => by
    have hz : j < 1 := (List.getElem?_eq_some_iff.mp hx).1
    rw [show j = 0 by omega] at hx
    cases hx
    rw [← hτ]
    exact hat)
  have hD1 : va_D A (jws dA τ S ++ [(τ S.1.length, jcell dA τ S' S.1.length kn)]) := hD.push hP hτ.symm (by rw [← hτ]; exact hA _ hS.1)
  rw [hp] at hP1 hD1
  refine ⟨hP1, hD1, ⟨Nat.le_trans hS.1 (by omega), fun x g1 g2 => (o1 x (Nat.lt_of_lt_of_le g1 hS.1)).trans (hS.2.1 x g1 g2), hS.2.2⟩, hl, ?_, ?_, ?_⟩
  · rw [hs, List.length_append]; simp; omega
  · rw [hs, List.length_append]; simp; omega
  · rw [hs, jsz_push]; omega
theorem js_new (C : jCx p l R s m args meth c dC dI dA τ A k d) (F : jFr s dC dI dA τ A k n0 z0 S ls lsR H locs cells slots) {idx ci n w : Nat} {Cn : String} {T : u_T} (hc : vwCl[ci]? = some (Cn, T, n)) (hw : j_w w (.classLink (jY k).1.cls idx Cn) = true) (hd : decode (jY k).2.1 pc = .ok (.new idx, 3)) (hE : jTi τ n0 s.heap) (hr1 : cells + 1 ≤ R.cells) (hr2 : slots + n ≤ R.slots) (h9 : S.1.length ≤ 900) {r : List Value} (kk : jK p l e R s m args below meth c Q dC dI dA τ A k n0 z0 (pc + 3) ls (.ref S.1.length :: r) (S.1 ++ [(ci, n)], va_up S.2.1 S.1.length (fun _ => 0), va_up S.2.2.1 S.1.length (fun _ => 0), va_up S.2.2.2 S.1.length (fun _ => none))) : W p l e R s m args below meth c H locs cells slots Q (F0 m pc lsR (r.map (tv τ))) := by
  refine jW_size (fun hz => ?_)
  have ht := jTi_now F hz hE
  obtain ⟨hx, hb, hml, hr, hlk, hown, hini, hts, hfx, hA, hf1, hf2, hstr⟩ := C
  have F0' := F
  obtain ⟨hP, hD, hS, hl, hle, hc1, hc2⟩ := F
  obtain ⟨c1, c2, c3, c4, c5, ty, c6, c7⟩ := jCl_of ci Cn T n hc
  have hKn := (j_ty hfx).1 ci _ hc
  have hτ : H.size = τ S.1.length := by rw [ht.2 _ (by omega)]; exact ht.1
  refine W.newcK hx hb hown (hts _ (j_w_good hw rfl)) (hts _ c2) (hts _ c3) rfl hd hr1 hr2 hKn.2.1 hτ (fun H1 kC hkC e1 z1 o1 => ?_)
  rw [← hτ] at e1 z1 o1
  refine kk lsR H1 locs (cells + 1) (slots + n) (F0'.push (kn := (ci, n)) ht rfl (fun i hi => va_up_ne _ _ hi) (fun i hi => va_up_ne _ _ hi) (fun i hi => va_up_ne _ _ hi) z1 o1 ?_ hA h9)
  simp only [jcell, c5, if_true]
  refine ⟨_, hc, (u_born ty hts c1 hKn hkC e1 c6).to (fun j hj => ?_)⟩
  have h8 := c7 j hj
  simp only [vp_V, List.getD_eq_getElem?_getD, List.getElem?_map, List.getElem?_range hj, Option.map_some, Option.getD_some, jfv, va_up_self]
  simp only [tcOk] at h8
  split at h8
  · next q => rw [decide_eq_true_eq] at h8; rw [q, h8]; rfl
  · next q => rw [decide_eq_true_eq] at h8; rw [q, h8]; rfl
  · next q => rw [decide_eq_true_eq] at h8; rw [q, h8]; rfl
  · next q =>
    rw [q]
    cases hty : ty j <;> rw [hty] at h8 <;> first | rfl | (simp [refKind] at h8)
  · cases h8
theorem js_na_i (C : jCx p l R s m args meth c dC dI dA τ A k d) (F : jFr s dC dI dA τ A k n0 z0 S ls lsR H locs cells slots) (hd : decode (jY k).2.1 pc = .ok (.newarray .int, 2)) (hE : jTi τ n0 s.heap) {n : Int32} (hn : ¬ n < 0) (hb9 : n.toNatClampNeg ≤ 1000000) (hr1 : cells + 1 ≤ R.cells) (hr2 : slots + n.toNatClampNeg ≤ R.slots) (h9 : S.1.length ≤ 900) {r : List Value} (kk : jK p l e R s m args below meth c Q dC dI dA τ A k n0 z0 (pc + 2) ls (.ref S.1.length :: r) (S.1 ++ [(100, n.toNatClampNeg)], va_up S.2.1 S.1.length (fun _ => 0), S.2.2)) : W p l e R s m args below meth c H locs cells slots Q (F0 m pc lsR ((.int n :: r).map (tv τ))) := by
  refine jW_size (fun hz => ?_)
  have ht := jTi_now F hz hE
  obtain ⟨hx, hb, hml, hr, hlk, hown, hini, hts, hfx, hA, hf1, hf2, hstr⟩ := C
  have F0' := F
  obtain ⟨hP, hD, hS, hl, hle, hc1, hc2⟩ := F
  have hτ : H.size = τ S.1.length := by rw [ht.2 _ (by omega)]; exact ht.1
  refine va_newaK (atype := .int) hx hb (hts _ wa_int) rfl hd rfl hn rfl (Nat.le_trans (Nat.mul_le_mul hb9 (show componentBytes (newarray.typeOf .int) ≤ 8 by decide)) (by decide)) hr1 hr2 hτ (fun H1 cA e1 z1 o1 hAr hNm => ?_)
  rw [← hτ] at e1 z1 o1
  have hdA : cA = dA 0 := Option.some.inj (hNm.symm.trans (((j_ty hfx).2 0 _ rfl).2))
  refine kk lsR H1 locs (cells + 1) (slots + n.toNatClampNeg) (F0'.push (kn := (100, n.toNatClampNeg)) ht rfl (fun i hi => va_up_ne _ _ hi) (fun i hi => rfl) (fun i hi => rfl) z1 o1 ?_ hA h9)
  show H1[H.size]? = _
  rw [e1, hdA]
  simp [jcell, va_up_self, vp_cell_i, vp_cell_l]
  rfl
theorem js_na_b (C : jCx p l R s m args meth c dC dI dA τ A k d) (F : jFr s dC dI dA τ A k n0 z0 S ls lsR H locs cells slots) (hd : decode (jY k).2.1 pc = .ok (.newarray .byte, 2)) (hE : jTi τ n0 s.heap) {n : Int32} (hn : ¬ n < 0) (hb9 : n.toNatClampNeg ≤ 1000000) (hr1 : cells + 1 ≤ R.cells) (hr2 : slots + n.toNatClampNeg ≤ R.slots) (h9 : S.1.length ≤ 900) {r : List Value} (kk : jK p l e R s m args below meth c Q dC dI dA τ A k n0 z0 (pc + 2) ls (.ref S.1.length :: r) (S.1 ++ [(101, n.toNatClampNeg)], va_up S.2.1 S.1.length (fun _ => 0), S.2.2)) : W p l e R s m args below meth c H locs cells slots Q (F0 m pc lsR ((.int n :: r).map (tv τ))) := by
  refine jW_size (fun hz => ?_)
  have ht := jTi_now F hz hE
  obtain ⟨hx, hb, hml, hr, hlk, hown, hini, hts, hfx, hA, hf1, hf2, hstr⟩ := C
  have F0' := F
  obtain ⟨hP, hD, hS, hl, hle, hc1, hc2⟩ := F
  have hτ : H.size = τ S.1.length := by rw [ht.2 _ (by omega)]; exact ht.1
  refine va_newaK (atype := .byte) hx hb (hts _ wa_byte) rfl hd rfl hn rfl (Nat.le_trans (Nat.mul_le_mul hb9 (show componentBytes (newarray.typeOf .byte) ≤ 8 by decide)) (by decide)) hr1 hr2 hτ (fun H1 cA e1 z1 o1 hAr hNm => ?_)
  rw [← hτ] at e1 z1 o1
  have hdA : cA = dA 1 := Option.some.inj (hNm.symm.trans (((j_ty hfx).2 1 _ rfl).2))
  refine kk lsR H1 locs (cells + 1) (slots + n.toNatClampNeg) (F0'.push (kn := (101, n.toNatClampNeg)) ht rfl (fun i hi => va_up_ne _ _ hi) (fun i hi => rfl) (fun i hi => rfl) z1 o1 ?_ hA h9)
  show H1[H.size]? = _
  rw [e1, hdA]
  simp [jcell, va_up_self, vp_cell_i, vp_cell_l]
  rfl
theorem js_na_z (C : jCx p l R s m args meth c dC dI dA τ A k d) (F : jFr s dC dI dA τ A k n0 z0 S ls lsR H locs cells slots) (hd : decode (jY k).2.1 pc = .ok (.newarray .boolean, 2)) (hE : jTi τ n0 s.heap) {n : Int32} (hn : ¬ n < 0) (hb9 : n.toNatClampNeg ≤ 1000000) (hr1 : cells + 1 ≤ R.cells) (hr2 : slots + n.toNatClampNeg ≤ R.slots) (h9 : S.1.length ≤ 900) {r : List Value} (kk : jK p l e R s m args below meth c Q dC dI dA τ A k n0 z0 (pc + 2) ls (.ref S.1.length :: r) (S.1 ++ [(102, n.toNatClampNeg)], va_up S.2.1 S.1.length (fun _ => 0), S.2.2)) : W p l e R s m args below meth c H locs cells slots Q (F0 m pc lsR ((.int n :: r).map (tv τ))) := by
  refine jW_size (fun hz => ?_)
  have ht := jTi_now F hz hE
  obtain ⟨hx, hb, hml, hr, hlk, hown, hini, hts, hfx, hA, hf1, hf2, hstr⟩ := C
  have F0' := F
  obtain ⟨hP, hD, hS, hl, hle, hc1, hc2⟩ := F
  have hτ : H.size = τ S.1.length := by rw [ht.2 _ (by omega)]; exact ht.1
  refine va_newaK (atype := .boolean) hx hb (hts _ wa_boolean) rfl hd rfl hn rfl (Nat.le_trans (Nat.mul_le_mul hb9 (show componentBytes (newarray.typeOf .boolean) ≤ 8 by decide)) (by decide)) hr1 hr2 hτ (fun H1 cA e1 z1 o1 hAr hNm => ?_)
  rw [← hτ] at e1 z1 o1
  have hdA : cA = dA 2 := Option.some.inj (hNm.symm.trans (((j_ty hfx).2 2 _ rfl).2))
  refine kk lsR H1 locs (cells + 1) (slots + n.toNatClampNeg) (F0'.push (kn := (102, n.toNatClampNeg)) ht rfl (fun i hi => va_up_ne _ _ hi) (fun i hi => rfl) (fun i hi => rfl) z1 o1 ?_ hA h9)
  show H1[H.size]? = _
  rw [e1, hdA]
  simp [jcell, va_up_self, vp_cell_i, vp_cell_l]
  rfl
theorem js_na_l (C : jCx p l R s m args meth c dC dI dA τ A k d) (F : jFr s dC dI dA τ A k n0 z0 S ls lsR H locs cells slots) (hd : decode (jY k).2.1 pc = .ok (.newarray .long, 2)) (hE : jTi τ n0 s.heap) {n : Int32} (hn : ¬ n < 0) (hb9 : n.toNatClampNeg ≤ 1000000) (hr1 : cells + 1 ≤ R.cells) (hr2 : slots + n.toNatClampNeg ≤ R.slots) (h9 : S.1.length ≤ 900) {r : List Value} (kk : jK p l e R s m args below meth c Q dC dI dA τ A k n0 z0 (pc + 2) ls (.ref S.1.length :: r) (S.1 ++ [(103, n.toNatClampNeg)], S.2.1, va_up S.2.2.1 S.1.length (fun _ => 0), S.2.2.2)) : W p l e R s m args below meth c H locs cells slots Q (F0 m pc lsR ((.int n :: r).map (tv τ))) := by
  refine jW_size (fun hz => ?_)
  have ht := jTi_now F hz hE
  obtain ⟨hx, hb, hml, hr, hlk, hown, hini, hts, hfx, hA, hf1, hf2, hstr⟩ := C
  have F0' := F
  obtain ⟨hP, hD, hS, hl, hle, hc1, hc2⟩ := F
  have hτ : H.size = τ S.1.length := by rw [ht.2 _ (by omega)]; exact ht.1
  refine va_newaK (atype := .long) hx hb (hts _ wa_long) rfl hd rfl hn rfl (Nat.le_trans (Nat.mul_le_mul hb9 (show componentBytes (newarray.typeOf .long) ≤ 8 by decide)) (by decide)) hr1 hr2 hτ (fun H1 cA e1 z1 o1 hAr hNm => ?_)
  rw [← hτ] at e1 z1 o1
  have hdA : cA = dA 3 := Option.some.inj (hNm.symm.trans (((j_ty hfx).2 3 _ rfl).2))
  refine kk lsR H1 locs (cells + 1) (slots + n.toNatClampNeg) (F0'.push (kn := (103, n.toNatClampNeg)) ht rfl (fun i hi => rfl) (fun i hi => va_up_ne _ _ hi) (fun i hi => rfl) z1 o1 ?_ hA h9)
  show H1[H.size]? = _
  rw [e1, hdA]
  simp [jcell, va_up_self, vp_cell_i, vp_cell_l]
  rfl
theorem js_na_q (C : jCx p l R s m args meth c dC dI dA τ A k d) (F : jFr s dC dI dA τ A k n0 z0 S ls lsR H locs cells slots) {idx w : Nat} (hw : j_w w (.classLink (jY k).1.cls idx "ShipYard$Person") = true) (hd : decode (jY k).2.1 pc = .ok (.anewarray idx, 3)) (hE : jTi τ n0 s.heap) {n : Int32} (hn : ¬ n < 0) (hb9 : n.toNatClampNeg ≤ 1000000) (hr1 : cells + 1 ≤ R.cells) (hr2 : slots + n.toNatClampNeg ≤ R.slots) (h9 : S.1.length ≤ 900) {r : List Value} (kk : jK p l e R s m args below meth c Q dC dI dA τ A k n0 z0 (pc + 3) ls (.ref S.1.length :: r) (S.1 ++ [(104, n.toNatClampNeg)], S.2.1, S.2.2.1, va_up S.2.2.2 S.1.length (fun _ => none))) : W p l e R s m args below meth c H locs cells slots Q (F0 m pc lsR ((.int n :: r).map (tv τ))) := by
  refine jW_size (fun hz => ?_)
  have ht := jTi_now F hz hE
  obtain ⟨hx, hb, hml, hr, hlk, hown, hini, hts, hfx, hA, hf1, hf2, hstr⟩ := C
  have F0' := F
  obtain ⟨hP, hD, hS, hl, hle, hc1, hc2⟩ := F
  have hτ : H.size = τ S.1.length := by rw [ht.2 _ (by omega)]; exact ht.1
  refine W.anew hx hb hown (hts _ (j_w_good hw rfl)) (va_AO.use hfx.2.2.2.2.2) rfl hd rfl hn (Nat.le_trans (Nat.mul_le_mul hb9 (Nat.le_refl 4)) (by decide)) hr1 hr2 (fun cA kA comp f1 f2 f3 f4 => ?_)
  generalize hH1 : H.push ({ cls := cA, slots := Array.replicate n.toNatClampNeg .null, vm := .none } : Cell) = H1
  have z1 : H1.size = H.size + 1 := by rw [← hH1, Array.size_push]
  have e1 : H1[H.size]? = some (arrV cA n.toNatClampNeg (fun _ => .null)) := by rw [← hH1, Array.getElem?_push_size, ← arrV_new]
  have o1 : ∀ q : Nat, q < H.size → H1[q]? = H[q]? := fun q hq => by rw [← hH1, Array.getElem?_push, if_neg (Nat.ne_of_lt hq)]
  have hdA : cA = dA 4 := by
    obtain ⟨kA2, comp2, g1, g2, g3, g4⟩ := ((j_ty hfx).2 4 _ rfl).2
    exact Option.some.inj (f1.symm.trans g4)
  have hfr := F0'.push (S' := (S.1 ++ [(104, n.toNatClampNeg)], S.2.1, S.2.2.1, va_up S.2.2.2 S.1.length (fun _ => none))) (kn := (104, n.toNatClampNeg)) (H1 := H1) ht rfl (fun i hi => rfl) (fun i hi => rfl) (fun i hi => va_up_ne _ _ hi) z1 o1 (by
    show H1[H.size]? = _
    rw [e1, hdA]
    simp [jcell, va_up_self, vp_cell_q, va_rf]) hA h9
  have hk := kk lsR H1 locs (cells + 1) (slots + n.toNatClampNeg) hfr
  rw [List.map_cons, show tv τ (.ref S.1.length) = .ref (τ S.1.length) from rfl, ← hτ] at hk
  exact hk
theorem jPc_now (C : jCx p l R s m args meth c dC dI dA τ A k d) (F : jFr s dC dI dA τ A k n0 z0 S ls lsR H locs cells slots) {S' : jS} {as : List Value} (hE : S'.1.length ≠ S.1.length → jTi τ S.1.length H) : ∀ U : State, U.heap = H → s.WarmedH U.vm → jPc dC dI dA τ A as S S' (as.map (tv τ)).toArray U := by
  obtain ⟨hx, hb, hml, hr, hlk, hown, hini, hts, hfx, hA, hf1, hf2, hstr⟩ := C
  have F0' := F
  obtain ⟨hP, hD, hS, hl, hle, hc1, hc2⟩ := F
  intro U hU hW
  refine ⟨rfl, ?_⟩
  dsimp only
  rw [hU]
  exact ⟨hP, hD, (hfx.warm hW).kept (fun a h1 h2 => hS.2.1 a h1 h2), fun q hq => hA q (Nat.le_trans hS.1 hq), hE, hle.1, hle.2⟩
theorem js_back (C : jCx p l R s m args meth c dC dI dA τ A k d) (F : jFr s dC dI dA τ A k n0 z0 S ls lsR H locs cells slots) {S' : jS} {v : Option Value} {r st0 : List Value} {a : Array Value} (hrun : va_Run p l e R s m args below meth c H locs cells slots (S'.1.length - S.1.length) (jsz S'.1 - jsz S.1) (F0 m pc lsR st0) (r.map (tv τ)) (jQ dC dI dA τ A S v S' a) A) (hpre : S.1 <+: S'.1) (kk : jK p l e R s m args below meth c Q dC dI dA τ A k n0 z0 (pc + 3) ls (v.toList ++ r) S') : W p l e R s m args below meth c H locs cells slots Q (F0 m pc lsR st0) := by
  obtain ⟨hx, hb, hml, hr, hlk, hown, hini, hts, hfx, hA, hf1, hf2, hstr⟩ := C
  have F0' := F
  obtain ⟨hP, hD, hS, hl, hle, hc1, hc2⟩ := F
  refine j_called hrun hS (fun H1 locs1 hP1 hD1 hS1 hti hle1 => ?_)
  have hlen := hpre.length_le
  have hsz := jsz_le hpre
  have hk := kk lsR H1 locs1 (cells + (S'.1.length - S.1.length)) (slots + (jsz S'.1 - jsz S.1)) ⟨hP1, hD1, hS1, hl, ⟨by omega, hle1⟩, by omega, by omega⟩
  have he : (v.toList ++ r).map (tv τ) = (v.map (tv τ)).toList ++ r.map (tv τ) := by cases v <;> simp
  rw [he] at hk
  exact hk
theorem js_callS (C : jCx p l R s m args meth c dC dI dA τ A k d) (F : jFr s dC dI dA τ A k n0 z0 S ls lsR H locs cells slots) {k' d' idx w : Nat} (hd' : d = d' + 1) (hok : okM k' = true) {S' : jS} {v : Option Value} {as r : List Value} (hM : Met l (jY k').1 (jwk k') (jrm d' S S') (jPc dC dI dA τ A as S S') (jQ dC dI dA τ A S v S') (S'.1.length - S.1.length) (jsz S'.1 - jsz S.1) A) (hpre : S.1 <+: S'.1) (hE : S'.1.length ≠ S.1.length → jTi τ n0 s.heap) (hr1 : cells + (S'.1.length - S.1.length) ≤ R.cells) (hr2 : slots + (jsz S'.1 - jsz S.1) ≤ R.slots) (h8 : Nat.ble (j_sum r) 8 = true) {n : Nat} (hk0 : (jpos.getD k' []).getD 4 9 = 0) (hw : j_w w (.methodLink (jY k).1.cls idx (jY k').1) = true) (hnp : j_np (jY k').1 n = true) (hd : decode (jY k).2.1 pc = .ok (.invokestatic idx, 3)) (hpop : j_pop n st [] = some (as, r)) (kk : jK p l e R s m args below meth c Q dC dI dA τ A k n0 z0 (pc + 3) ls (v.toList ++ r) S') : W p l e R s m args below meth c H locs cells slots Q (F0 m pc lsR (st.map (tv τ))) := by
  refine jW_size (fun hz => ?_)
  have hE' : S'.1.length ≠ S.1.length → jTi τ S.1.length H := fun q => jTi_now F hz (hE q)
  have hpc := jPc_now (as := as) C F hE'
  refine js_back (v := v) (r := r) (S' := S') (a := (as.map (tv τ)).toArray) C F ?_ hpre kk
  obtain ⟨hx, hb, hml, hr, hlk, hown, hini, hts, hfx, hA, hf1, hf2, hstr⟩ := C
  have F0' := F
  obtain ⟨hP, hD, hS, hl, hle, hc1, hc2⟩ := F
  obtain ⟨m1, m2, m3, m4, m5, m6, m7, m8, m9, m10⟩ := okM_of hok
  have hG : GoodIn jgood (jwk k') := j_good_cons m1
  have hR : (jrm d' S S').frames + 1 ≤ R.frames ∧ 8 + ((jY k').2.2.1 + 11) + (jrm d' S S').locals ≤ R.locals := ⟨j_room1 hd' hf1, j_room2 m6 hd' hf2⟩
  have hroom : 2 * (F0 m pc lsR (st.map (tv τ))).monitorRoom + ((r.map (tv τ)).map fun v => v.category).sum ≤ 8 := lv_room (by rw [j_sum_tv]; exact Nat.le_of_ble_eq_true h8)
  obtain ⟨hlen, hst⟩ := j_pop_of hpop
  refine va_runS (As := as.map (tv τ)) (n := n) ⟨hx, hb, hml, hown, hts⟩ hM ⟨callB_of n hts hG rfl rfl rfl (hts _ m2) (hts _ (j_w_good hw rfl)) ⟨m4, m5, by simpa [j_np] using hnp⟩ hR, hts _ (m8 hk0)⟩ ⟨jPc_blind, hpc⟩ rfl (by simpa using hlen) hl.2.1 (by show st.map (tv τ) = _; rw [hst]; simp) hroom hd ⟨hr1, hr2⟩
theorem js_callV (C : jCx p l R s m args meth c dC dI dA τ A k d) (F : jFr s dC dI dA τ A k n0 z0 S ls lsR H locs cells slots) {k' d' idx w : Nat} (hd' : d = d' + 1) (hok : okM k' = true) {S' : jS} {v : Option Value} {as r : List Value} (hM : Met l (jY k').1 (jwk k') (jrm d' S S') (jPc dC dI dA τ A as S S') (jQ dC dI dA τ A S v S') (S'.1.length - S.1.length) (jsz S'.1 - jsz S.1) A) (hpre : S.1 <+: S'.1) (hE : S'.1.length ≠ S.1.length → jTi τ n0 s.heap) (hr1 : cells + (S'.1.length - S.1.length) ≤ R.cells) (hr2 : slots + (jsz S'.1 - jsz S.1) ≤ R.slots) (h8 : Nat.ble (j_sum r) 8 = true) {n ci nn o : Nat} {Cn : String} {T : u_T} {N : Nat} (hc : vwCl[ci]? = some (Cn, T, N)) (hcl : (jY k').1.cls = Cn) (ho : j_sh S.1 o = some (ci, nn)) (hk0 : (jpos.getD k' []).getD 4 9 = 1) (hw : j_w w (.methodLink (jY k).1.cls idx (jY k').1) = true) (hnp : j_np (jY k').1 n = true) (hd : decode (jY k).2.1 pc = .ok (.invokevirtual idx, 3)) {bs : List Value} (has : as = .ref o :: bs) (hpop : j_pop n st [] = some (bs, .ref o :: r)) (kk : jK p l e R s m args below meth c Q dC dI dA τ A k n0 z0 (pc + 3) ls (v.toList ++ r) S') : W p l e R s m args below meth c H locs cells slots Q (F0 m pc lsR (st.map (tv τ))) := by
  refine jW_size (fun hz => ?_)
  have hE' : S'.1.length ≠ S.1.length → jTi τ S.1.length H := fun q => jTi_now F hz (hE q)
  have hpc := jPc_now (as := as) C F hE'
  refine js_back (v := v) (r := r) (S' := S') (a := (as.map (tv τ)).toArray) C F ?_ hpre kk
  obtain ⟨hx, hb, hml, hr, hlk, hown, hini, hts, hfx, hA, hf1, hf2, hstr⟩ := C
  have F0' := F
  obtain ⟨hP, hD, hS, hl, hle, hc1, hc2⟩ := F
  obtain ⟨m1, m2, m3, m4, m5, m6, m7, m8, m9, m10⟩ := okM_of hok
  have hG : GoodIn jgood (jwk k') := j_good_cons m1
  have hR : (jrm d' S S').frames + 1 ≤ R.frames ∧ 8 + ((jY k').2.2.1 + 11) + (jrm d' S S').locals ≤ R.locals := ⟨j_room1 hd' hf1, j_room2 m6 hd' hf2⟩
  have hroom : 2 * (F0 m pc lsR (st.map (tv τ))).monitorRoom + ((r.map (tv τ)).map fun v => v.category).sum ≤ 8 := lv_room (by rw [j_sum_tv]; exact Nat.le_of_ble_eq_true h8)
  obtain ⟨hlen, hst⟩ := j_pop_of hpop
  subst has
  have c5 := (jCl_of ci Cn T N hc).2.2.2.2.1
  refine va_runV (C := Cn) (b := τ o) (As := bs.map (tv τ)) (n := n) ⟨hx, hb, hml, hown, hts⟩ hM ⟨callB_of n hts hG rfl rfl rfl (hts _ m2) (hts _ (j_w_good hw rfl)) ⟨m4, m5, by simpa [j_np] using hnp⟩ hR, hts _ (m9 hk0).1, by rw [← hcl]; exact hts _ (m9 hk0).2⟩ ⟨jPc_blind, va_recv (j_ty hfx) hP hc (j_obj ho c5), hpc⟩ rfl (by simpa using hlen) hl.2.1 (by show st.map (tv τ) = _; rw [hst]; simp [tv]) hroom hd ⟨hr1, hr2⟩
theorem js_callI (C : jCx p l R s m args meth c dC dI dA τ A k d) (F : jFr s dC dI dA τ A k n0 z0 S ls lsR H locs cells slots) {k' d' idx w : Nat} (hd' : d = d' + 1) (hok : okM k' = true) {S' : jS} {v : Option Value} {as r : List Value} (hM : Met l (jY k').1 (jwk k') (jrm d' S S') (jPc dC dI dA τ A as S S') (jQ dC dI dA τ A S v S') (S'.1.length - S.1.length) (jsz S'.1 - jsz S.1) A) (hpre : S.1 <+: S'.1) (hE : S'.1.length ≠ S.1.length → jTi τ n0 s.heap) (hr1 : cells + (S'.1.length - S.1.length) ≤ R.cells) (hr2 : slots + (jsz S'.1 - jsz S.1) ≤ R.slots) (h8 : Nat.ble (j_sum r) 8 = true) {n o : Nat} (hnm : (jY k').1.name = "<init>") (hrt : (jY k').2.2.2 = none) (hk0 : (jpos.getD k' []).getD 4 9 = 2) (hw : j_w w (.methodLink (jY k).1.cls idx (jY k').1) = true) (hnp : j_np (jY k').1 n = true) (hd : decode (jY k).2.1 pc = .ok (.invokespecial idx, 3)) {bs : List Value} (has : as = .ref o :: bs) (hpop : j_pop n st [] = some (bs, .ref o :: r)) (kk : jK p l e R s m args below meth c Q dC dI dA τ A k n0 z0 (pc + 3) ls (v.toList ++ r) S') : W p l e R s m args below meth c H locs cells slots Q (F0 m pc lsR (st.map (tv τ))) := by
  refine jW_size (fun hz => ?_)
  have hE' : S'.1.length ≠ S.1.length → jTi τ S.1.length H := fun q => jTi_now F hz (hE q)
  have hpc := jPc_now (as := as) C F hE'
  refine js_back (v := v) (r := r) (S' := S') (a := (as.map (tv τ)).toArray) C F ?_ hpre kk
  obtain ⟨hx, hb, hml, hr, hlk, hown, hini, hts, hfx, hA, hf1, hf2, hstr⟩ := C
  have F0' := F
  obtain ⟨hP, hD, hS, hl, hle, hc1, hc2⟩ := F
  obtain ⟨m1, m2, m3, m4, m5, m6, m7, m8, m9, m10⟩ := okM_of hok
  have hG : GoodIn jgood (jwk k') := j_good_cons m1
  have hR : (jrm d' S S').frames + 1 ≤ R.frames ∧ 8 + ((jY k').2.2.1 + 11) + (jrm d' S S').locals ≤ R.locals := ⟨j_room1 hd' hf1, j_room2 m6 hd' hf2⟩
  have hroom : 2 * (F0 m pc lsR (st.map (tv τ))).monitorRoom + ((r.map (tv τ)).map fun v => v.category).sum ≤ 8 := lv_room (by rw [j_sum_tv]; exact Nat.le_of_ble_eq_true h8)
  obtain ⟨hlen, hst⟩ := j_pop_of hpop
  subst has
  have hcb := callB_of (bytes := (jY k').2.1) (maxL := (jY k').2.2.1) (ret := (jY k').2.2.2) (R := R) (rm := jrm d' S S') n hts hG rfl rfl rfl (hts _ m2) (hts _ (j_w_good hw rfl)) ⟨m4, m5, by simpa [j_np] using hnp⟩ hR
  rw [hrt] at hcb
  refine va_runI (b := τ o) (As := bs.map (tv τ)) (n := n) ⟨hx, hb, hml, hown, hts⟩ hM ⟨hcb, hnm, hts _ (m10 hk0)⟩ ⟨jPc_blind, hpc⟩ rfl (by simpa using hlen) hl.2.1 (by show st.map (tv τ) = _; rw [hst]; simp [tv]) hroom hd ⟨hr1, hr2⟩
theorem js_callN (C : jCx p l R s m args meth c dC dI dA τ A k d) (F : jFr s dC dI dA τ A k n0 z0 S ls lsR H locs cells slots) {k' d' idx w : Nat} (hd' : d = d' + 1) (hok : okM k' = true) {S' : jS} {v : Option Value} {as r : List Value} (hM : Met l (jY k').1 (jwk k') (jrm d' S S') (jPc dC dI dA τ A as S S') (jQ dC dI dA τ A S v S') (S'.1.length - S.1.length) (jsz S'.1 - jsz S.1) A) (hpre : S.1 <+: S'.1) (hE : S'.1.length ≠ S.1.length → jTi τ n0 s.heap) (hr1 : cells + (S'.1.length - S.1.length) ≤ R.cells) (hr2 : slots + (jsz S'.1 - jsz S.1) ≤ R.slots) (h8 : Nat.ble (j_sum r) 8 = true) {n o : Nat} (hnm : (jY k').1.name = "<init>") (hrt : (jY k').2.2.2 = none) (hk0 : (jpos.getD k' []).getD 4 9 = 2) (hw : j_w w (.methodLinkNest (jY k).1.cls idx (jY k').1 "ShipYard") = true) (hnp : j_np (jY k').1 n = true) (hd : decode (jY k).2.1 pc = .ok (.invokespecial idx, 3)) {bs : List Value} (has : as = .ref o :: bs) (hpop : j_pop n st [] = some (bs, .ref o :: r)) (kk : jK p l e R s m args below meth c Q dC dI dA τ A k n0 z0 (pc + 3) ls (v.toList ++ r) S') : W p l e R s m args below meth c H locs cells slots Q (F0 m pc lsR (st.map (tv τ))) := by
  refine jW_size (fun hz => ?_)
  have hE' : S'.1.length ≠ S.1.length → jTi τ S.1.length H := fun q => jTi_now F hz (hE q)
  have hpc := jPc_now (as := as) C F hE'
  refine js_back (v := v) (r := r) (S' := S') (a := (as.map (tv τ)).toArray) C F ?_ hpre kk
  obtain ⟨hx, hb, hml, hr, hlk, hown, hini, hts, hfx, hA, hf1, hf2, hstr⟩ := C
  have F0' := F
  obtain ⟨hP, hD, hS, hl, hle, hc1, hc2⟩ := F
  obtain ⟨m1, m2, m3, m4, m5, m6, m7, m8, m9, m10⟩ := okM_of hok
  have hG : GoodIn jgood (jwk k') := j_good_cons m1
  have hR : (jrm d' S S').frames + 1 ≤ R.frames ∧ 8 + ((jY k').2.2.1 + 11) + (jrm d' S S').locals ≤ R.locals := ⟨j_room1 hd' hf1, j_room2 m6 hd' hf2⟩
  have hroom : 2 * (F0 m pc lsR (st.map (tv τ))).monitorRoom + ((r.map (tv τ)).map fun v => v.category).sum ≤ 8 := lv_room (by rw [j_sum_tv]; exact Nat.le_of_ble_eq_true h8)
  obtain ⟨hlen, hst⟩ := j_pop_of hpop
  subst has
  have hcb := va_cnB (bytes := (jY k').2.1) (maxL := (jY k').2.2.1) (ret := (jY k').2.2.2) (R := R) (rm := jrm d' S S') (args := args) n hts hG rfl rfl rfl (hfx.2.2.2.2.1 _ (j_w_nestM hw)) (hts _ m2) ⟨m4, m5, by simpa [j_np] using hnp⟩ hR
  rw [hrt] at hcb
  refine va_runIN (b := τ o) (As := bs.map (tv τ)) (n := n) ⟨hx, hb, hml, hown, hts⟩ hM ⟨hcb, hnm, hts _ (m10 hk0)⟩ ⟨jPc_blind, hpc⟩ rfl (by simpa using hlen) hl.2.1 (by show st.map (tv τ) = _; rw [hst]; simp [tv]) hroom hd ⟨hr1, hr2⟩
end JSTEP
