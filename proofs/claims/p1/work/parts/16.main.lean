/-! EVERY INSTRUCTION, AND EVERY RUN -/
theorem j_sw_cases {K : Nat → Prop} {d : Nat} {x : Int32} : ∀ (ts : List Nat) (lo : Int), j_sw K d x lo ts → (∃ (i t : Nat), ts[i]? = some t ∧ x = Int32.ofInt (lo + i) ∧ K t) ∨ ((∀ i : Nat, i < ts.length → x ≠ Int32.ofInt (lo + i)) ∧ K d) := by
  intro ts
  induction ts with
  | nil => intro lo h; exact Or.inr ⟨fun i hi => absurd hi (by simp), h⟩
  | cons t r ih =>
    intro lo h
    simp only [j_sw] at h
    split at h
    · next hx => exact Or.inl ⟨0, t, rfl, by simpa using hx, h⟩
    · next hx =>
      rcases ih (lo + 1) h with ⟨i, t', h1, h2, h3⟩ | ⟨h1, h2⟩
      · exact Or.inl ⟨i + 1, t', by simpa using h1, by rw [h2]; congr 1; push_cast; omega, h3⟩
      · refine Or.inr ⟨fun i hi => ?_, h2⟩
        cases i with
        | zero => simpa using hx
        | succ i =>
          have h3 := h1 i (by simpa using hi)
          rw [show lo + ((i + 1 : Nat) : Int) = lo + 1 + (i : Int) by push_cast; omega]
          exact h3
theorem j_ofInt {n : Int} (h1 : -100000 ≤ n) (h2 : n ≤ 100000) : (Int32.ofInt n).toInt = n := by
  apply Int32.toInt_ofInt_of_le
  · have : (-(2 : Int) ^ 31) ≤ -100000 := by decide
    simpa using Int.le_trans this h1
  · have : (100000 : Int) < 2 ^ 31 := by decide
    simpa using Int.lt_of_le_of_lt h2 this
theorem j_sw2_cases {K : Nat → Prop} {d pc : Nat} {x : Int32} {dflt : Int} (hd : (pc : Int) + dflt = (d : Int)) : ∀ (ps : List (Int × Int)) (ts : List Nat), ps.map (fun o => (pc : Int) + o.2) = ts.map (fun t : Nat => (t : Int)) → ps.all (fun q => decide (-100000 ≤ q.1) && decide (q.1 ≤ 100000)) = true → j_sw2 K d x ps ts → ∃ (off : Int) (t : Nat), Op.lookupswitch.offset ps dflt x.toInt = off ∧ (pc : Int) + off = (t : Int) ∧ K t := by
  intro ps
  induction ps with
  | nil =>
    intro ts h1 _ h
    cases ts with
    | nil => exact ⟨dflt, d, rfl, hd, h⟩
    | cons t r => simp at h1
  | cons q ps ih =>
    intro ts h1 h2 h
    obtain ⟨v, w⟩ := q
    cases ts with
    | nil => simp at h1
    | cons t r =>
      simp only [List.map_cons, List.cons.injEq] at h1
      simp only [List.all_cons, Bool.and_eq_true, decide_eq_true_eq] at h2
      simp only [j_sw2] at h
      have hv := j_ofInt h2.1.1 h2.1.2
      split at h
      · next hx =>
        refine ⟨w, t, ?_, h1.1, h⟩
        rw [hx, hv]
        simp [Op.lookupswitch.offset]
      · next hx =>
        obtain ⟨off, t', g1, g2, g3⟩ := ih r h1.2 (by simpa using h2.2) h
        exact ⟨off, t', by rw [lv_osw hx hv]; exact g1, g2, g3⟩
section JMAIN
variable {p : Program} {l : Launch} {e : Env} {R : Room} {s : State} {m : MethodId} {args : Array Value} {below : List Frame} {meth : Method} {c : Code}
variable {dC : Nat → ClassId} {dI : Nat → Nat → Nat} {dA : Nat → ClassId} {τ : Nat → Nat} {A : Nat → Prop} {k d : Nat} {S0 Sf : jS} {vf : Option Value}
variable {ls : jL} {S : jS} {lsR : Array Slot} {H : Heap} {locs : List Loc} {cells slots : Nat} {st : List Value}

theorem js_end (C : jCx p l R s m args meth c dC dI dA τ A k d) (F : jFr s dC dI dA τ A k S0.1.length (jsz S0.1) S ls lsR H locs cells slots) (hfin : Sf.1.length = S0.1.length + R.cells ∧ jsz Sf.1 = jsz S0.1 + R.slots) {v : Option Value} (hv : v = vf ∧ S = Sf) (hz : H.size ≤ s.heap.size + cells) : (∀ t : State, t.heap = H → s.WarmedH t.vm → jQ dC dI dA τ A S0 vf Sf args s (.returned (v.map (tv τ))) t) ∧ cells = R.cells ∧ slots = R.slots := by
  obtain ⟨rfl, rfl⟩ := hv
  have ht := fun h => jTi_now F hz h
  obtain ⟨hP, hD, hS, hl, hle, hc1, hc2⟩ := F
  refine ⟨fun t hh hw => ⟨rfl, by rw [hh]; exact hP, hD, hS.F hh, fun h => by rw [hh]; exact ht h, hle.2⟩, by omega, by omega⟩
set_option maxHeartbeats 4000000 in
set_option maxRecDepth 10000 in
theorem j_step (C : jCx p l R s m args meth c dC dI dA τ A k d) (F : jFr s dC dI dA τ A k S0.1.length (jsz S0.1) S ls lsR H locs cells slots) (hfin : Sf.1.length = S0.1.length + R.cells ∧ jsz Sf.1 = jsz S0.1 + R.slots) (hEn : Sf.1.length ≠ S0.1.length → jTi τ S0.1.length s.heap) (hpre : S.1 <+: Sf.1) (hokM : ∀ k', k' < jYL.length → okM k' = true) (hokR : ∀ k', (jY k').1.name = "<init>" → (jY k').2.2.2 = none) {ent : jE} (hok : okE (jY k) ent = true)
    (hone : jone jTT False (fun pc ls st S' => S'.1 <+: Sf.1 ∧ jK p l e R s m args below meth c (MQ below (jQ dC dI dA τ A S0 vf Sf) args s R.cells R.slots A) dC dI dA τ A k S0.1.length (jsz S0.1) pc ls st S') (fun k' as pc' ls' r S1 => ∃ (d' : Nat) (v : Option Value) (S' : jS), d = d' + 1 ∧ Met l (jY k').1 (jwk k') (jrm d' S1 S') (jPc dC dI dA τ A as S1 S') (jQ dC dI dA τ A S1 v S') (S'.1.length - S1.1.length) (jsz S'.1 - jsz S1.1) A ∧ S1.1 <+: S'.1 ∧ S'.1 <+: Sf.1 ∧ jK p l e R s m args below meth c (MQ below (jQ dC dI dA τ A S0 vf Sf) args s R.cells R.slots A) dC dI dA τ A k S0.1.length (jsz S0.1) pc' ls' (v.toList ++ r) S') (fun v S' => v = vf ∧ S' = Sf) ent ls st S) :
    W p l e R s m args below meth c H locs cells slots (MQ below (jQ dC dI dA τ A S0 vf Sf) args s R.cells R.slots A) (F0 m ent.1 lsR (st.map (tv τ))) := by
  obtain ⟨pc, ins, len, aux, val⟩ := ent
  simp only [okE, Bool.and_eq_true, decide_eq_true_eq] at hok
  obtain ⟨⟨hdec, hlen⟩, hxx⟩ := hok
  have C' := C
  have F' := F
  obtain ⟨hx, hb, hml, hr, hlk, hown, hini, hts, hfx, hA, hf1, hf2, hstr⟩ := C'
  obtain ⟨hP, hD, hS, hl, hle, hc1, hc2⟩ := F'
  dsimp only at hdec ⊢
  cases ins
  case iadd =>
    have hl1 : len = 1 := of_decide_eq_true hlen
    subst hl1
    simp only [jone] at hone
    split at hone
    · exact lv_iadd hx hb hdec (hone.2 lsR H locs cells slots F)
    · exact hone.elim
  case isub =>
    have hl1 : len = 1 := of_decide_eq_true hlen
    subst hl1
    simp only [jone] at hone
    split at hone
    · exact lv_isub hx hb hdec (hone.2 lsR H locs cells slots F)
    · exact hone.elim
  case imul =>
    have hl1 : len = 1 := of_decide_eq_true hlen
    subst hl1
    simp only [jone] at hone
    split at hone
    · exact lv_imul hx hb hdec (hone.2 lsR H locs cells slots F)
    · exact hone.elim
  case iand =>
    have hl1 : len = 1 := of_decide_eq_true hlen
    subst hl1
    simp only [jone] at hone
    split at hone
    · exact lv_iand hx hb hdec (hone.2 lsR H locs cells slots F)
    · exact hone.elim
  case ior =>
    have hl1 : len = 1 := of_decide_eq_true hlen
    subst hl1
    simp only [jone] at hone
    split at hone
    · exact lv_ior hx hb hdec (hone.2 lsR H locs cells slots F)
    · exact hone.elim
  case ixor =>
    have hl1 : len = 1 := of_decide_eq_true hlen
    subst hl1
    simp only [jone] at hone
    split at hone
    · exact lv_ixor hx hb hdec (hone.2 lsR H locs cells slots F)
    · exact hone.elim
  case ishl =>
    have hl1 : len = 1 := of_decide_eq_true hlen
    subst hl1
    simp only [jone] at hone
    split at hone
    · exact lv_ishl hx hb hdec (hone.2 lsR H locs cells slots F)
    · exact hone.elim
  case ishr =>
    have hl1 : len = 1 := of_decide_eq_true hlen
    subst hl1
    simp only [jone] at hone
    split at hone
    · exact lv_ishr hx hb hdec (hone.2 lsR H locs cells slots F)
    · exact hone.elim
  case ineg =>
    have hl1 : len = 1 := of_decide_eq_true hlen
    subst hl1
    simp only [jone] at hone
    split at hone
    · exact lv_ineg hx hb hdec (hone.2 lsR H locs cells slots F)
    · exact hone.elim
  case ladd =>
    have hl1 : len = 1 := of_decide_eq_true hlen
    subst hl1
    simp only [jone] at hone
    split at hone
    · exact lv_ladd hx hb hdec (hone.2 lsR H locs cells slots F)
    · exact hone.elim
  case lsub =>
    have hl1 : len = 1 := of_decide_eq_true hlen
    subst hl1
    simp only [jone] at hone
    split at hone
    · exact lv_lsub hx hb hdec (hone.2 lsR H locs cells slots F)
    · exact hone.elim
  case lmul =>
    have hl1 : len = 1 := of_decide_eq_true hlen
    subst hl1
    simp only [jone] at hone
    split at hone
    · exact lv_lmul hx hb hdec (hone.2 lsR H locs cells slots F)
    · exact hone.elim
  case land =>
    have hl1 : len = 1 := of_decide_eq_true hlen
    subst hl1
    simp only [jone] at hone
    split at hone
    · exact lv_land hx hb hdec (hone.2 lsR H locs cells slots F)
    · exact hone.elim
  case lor =>
    have hl1 : len = 1 := of_decide_eq_true hlen
    subst hl1
    simp only [jone] at hone
    split at hone
    · exact lv_lor hx hb hdec (hone.2 lsR H locs cells slots F)
    · exact hone.elim
  case lneg =>
    have hl1 : len = 1 := of_decide_eq_true hlen
    subst hl1
    simp only [jone] at hone
    split at hone
    · exact lv_lneg hx hb hdec (hone.2 lsR H locs cells slots F)
    · exact hone.elim
  case lcmp =>
    have hl1 : len = 1 := of_decide_eq_true hlen
    subst hl1
    simp only [jone] at hone
    split at hone
    · exact W.lcmp hx hb hdec (hone.2 lsR H locs cells slots F)
    · exact hone.elim
  case iushr =>
    have hl1 : len = 1 := of_decide_eq_true hlen
    subst hl1
    simp only [jone] at hone
    split at hone
    · exact lv_iushr hx hb hdec rfl (hone.2 lsR H locs cells slots F)
    · exact hone.elim
  case lshl =>
    have hl1 : len = 1 := of_decide_eq_true hlen
    subst hl1
    simp only [jone] at hone
    split at hone
    · exact lv_lshl hx hb hdec rfl (hone.2 lsR H locs cells slots F)
    · exact hone.elim
  case lushr =>
    have hl1 : len = 1 := of_decide_eq_true hlen
    subst hl1
    simp only [jone] at hone
    split at hone
    · exact lv_lushr hx hb hdec rfl (hone.2 lsR H locs cells slots F)
    · exact hone.elim
  case i2l =>
    have hl1 : len = 1 := of_decide_eq_true hlen
    subst hl1
    simp only [jone] at hone
    split at hone
    · exact lv_i2l hx hb hdec rfl (hone.2 lsR H locs cells slots F)
    · exact hone.elim
  case l2i =>
    have hl1 : len = 1 := of_decide_eq_true hlen
    subst hl1
    simp only [jone] at hone
    split at hone
    · exact lv_l2i hx hb hdec rfl (hone.2 lsR H locs cells slots F)
    · exact hone.elim
  case i2b =>
    have hl1 : len = 1 := of_decide_eq_true hlen
    subst hl1
    simp only [jone] at hone
    split at hone
    · exact lv_i2b hx hb hdec rfl (hone.2 lsR H locs cells slots F)
    · exact hone.elim
  case i2c =>
    have hl1 : len = 1 := of_decide_eq_true hlen
    subst hl1
    simp only [jone] at hone
    split at hone
    · exact lv_i2c hx hb hdec rfl (hone.2 lsR H locs cells slots F)
    · exact hone.elim
  case idiv =>
    have hl1 : len = 1 := of_decide_eq_true hlen
    subst hl1
    simp only [jone] at hone
    split at hone
    · split at hone
      · exact hone.elim
      · next hne => exact lv_idiv hx hb hdec hne (hone.2 lsR H locs cells slots F)
    · exact hone.elim
  case irem =>
    have hl1 : len = 1 := of_decide_eq_true hlen
    subst hl1
    simp only [jone] at hone
    split at hone
    · split at hone
      · exact hone.elim
      · next hne => exact lv_irem hx hb hdec hne (hone.2 lsR H locs cells slots F)
    · exact hone.elim
  case ldiv =>
    have hl1 : len = 1 := of_decide_eq_true hlen
    subst hl1
    simp only [jone] at hone
    split at hone
    · split at hone
      · exact hone.elim
      · next hne => exact lv_ldiv hx hb hdec hne (hone.2 lsR H locs cells slots F)
    · exact hone.elim
  case lrem =>
    have hl1 : len = 1 := of_decide_eq_true hlen
    subst hl1
    simp only [jone] at hone
    split at hone
    · split at hone
      · exact hone.elim
      · next hne => exact lv_lrem hx hb hdec hne (hone.2 lsR H locs cells slots F)
    · exact hone.elim
  case iconst n =>
    have hl1 : len = 1 := of_decide_eq_true hlen
    subst hl1
    simp only [jone] at hone
    split at hone
    · next v =>
      have hv2 := of_decide_eq_true hxx
      injection hv2 with hv3
      exact lv_iconst hx hb hdec hv3.symm (hone.2 lsR H locs cells slots F)
    · exact hone.elim
  case bipush n =>
    have hl1 : len = 2 := of_decide_eq_true hlen
    subst hl1
    simp only [jone] at hone
    split at hone
    · next v =>
      have hv2 := of_decide_eq_true hxx
      injection hv2 with hv3
      exact lv_bipush hx hb hdec hv3.symm (hone.2 lsR H locs cells slots F)
    · exact hone.elim
  case sipush n =>
    have hl1 : len = 3 := of_decide_eq_true hlen
    subst hl1
    simp only [jone] at hone
    split at hone
    · next v =>
      have hv2 := of_decide_eq_true hxx
      injection hv2 with hv3
      exact lv_sipush hx hb hdec hv3.symm (hone.2 lsR H locs cells slots F)
    · exact hone.elim
  case lconst n =>
    have hl1 : len = 1 := of_decide_eq_true hlen
    subst hl1
    simp only [jone] at hone
    split at hone
    · next v =>
      have hv2 := of_decide_eq_true hxx
      injection hv2 with hv3
      exact lv_lconst hx hb hdec hv3.symm (hone.2 lsR H locs cells slots F)
    · exact hone.elim
  case ldc i =>
    have hl1 : len = 2 := of_decide_eq_true hlen
    subst hl1
    simp only [jone] at hone
    split at hone
    · next v =>
      match aux, hxx with
      | [q], hxx =>
        have hw : j_w q (.constant (jY k).1.cls i v) = true := hxx
        exact lv_ldc hx hb hown (hts _ (j_w_good hw rfl)) hdec (hone.2 lsR H locs cells slots F)
      | [], hxx => cases hxx
      | _ :: _ :: _, hxx => cases hxx
    · next o =>
      match aux, hxx with
      | [q], hxx =>
        have hw : (j_w q (.stringRef (jY k).1.cls i (jtx.getD (o - 2000) "")) && decide (2000 ≤ o) && decide (o < 2014) && decide (jtxo.getD (o - 2000) ("", 0) = ((jY k).1.cls, i))) = true := hxx
        simp only [Bool.and_eq_true, decide_eq_true_eq] at hw
        exact js_ldcS C F hw.1.1.2 hw.1.2 hw.2 hdec hone.2
      | [], hxx => cases hxx
      | _ :: _ :: _, hxx => cases hxx
    · exact hone.elim
  case ldc_w i =>
    have hl1 : len = 3 := of_decide_eq_true hlen
    subst hl1
    simp only [jone] at hone
    split at hone
    · next v =>
      match aux, hxx with
      | [q], hxx =>
        have hw : j_w q (.constant (jY k).1.cls i v) = true := hxx
        exact lv_ldcw hx hb hown (hts _ (j_w_good hw rfl)) hdec (hone.2 lsR H locs cells slots F)
      | [], hxx => cases hxx
      | _ :: _ :: _, hxx => cases hxx
    · next o =>
      match aux, hxx with
      | [q], hxx =>
        have hw : (j_w q (.stringRef (jY k).1.cls i (jtx.getD (o - 2000) "")) && decide (2000 ≤ o) && decide (o < 2014) && decide (jtxo.getD (o - 2000) ("", 0) = ((jY k).1.cls, i))) = true := hxx
        simp only [Bool.and_eq_true, decide_eq_true_eq] at hw
        exact js_ldcwS C F hw.1.1.2 hw.1.2 hw.2 hdec hone.2
      | [], hxx => cases hxx
      | _ :: _ :: _, hxx => cases hxx
    · exact hone.elim
  case ldc2_w i =>
    have hl1 : len = 3 := of_decide_eq_true hlen
    subst hl1
    simp only [jone] at hone
    split at hone
    · next v =>
      match aux, hxx with
      | [q], hxx =>
        have hw : j_w q (.constantLong (jY k).1.cls i v) = true := hxx
        exact lv_ldc2 hx hb hown (hts _ (j_w_good hw rfl)) hdec (hone.2 lsR H locs cells slots F)
      | [], hxx => cases hxx
      | _ :: _ :: _, hxx => cases hxx
    · exact hone.elim
  case iload_n n =>
    have hl1 : len = 1 := of_decide_eq_true hlen
    subst hl1
    simp only [jone] at hone
    split at hone
    · next hld => exact lv_iload_n hx hb hdec rfl (hl.at hld) (hone.2 lsR H locs cells slots F)
    · exact hone.elim
  case lload_n n =>
    have hl1 : len = 1 := of_decide_eq_true hlen
    subst hl1
    simp only [jone] at hone
    split at hone
    · next hld => exact lv_lload_n hx hb hdec rfl (hl.at hld) (hone.2 lsR H locs cells slots F)
    · exact hone.elim
  case aload_n n =>
    have hl1 : len = 1 := of_decide_eq_true hlen
    subst hl1
    simp only [jone] at hone
    split at hone
    · next hld => exact lv_aload_n hx hb hdec rfl (hl.at hld) (hone.2 lsR H locs cells slots F)
    · exact hone.elim
  case iload n =>
    have hl1 : len = 2 := of_decide_eq_true hlen
    subst hl1
    simp only [jone] at hone
    split at hone
    · next hld => exact lv_iload hx hb hdec (hl.at hld) (hone.2 lsR H locs cells slots F)
    · exact hone.elim
  case lload n =>
    have hl1 : len = 2 := of_decide_eq_true hlen
    subst hl1
    simp only [jone] at hone
    split at hone
    · next hld => exact lv_lload hx hb hdec (hl.at hld) (hone.2 lsR H locs cells slots F)
    · exact hone.elim
  case aload n =>
    have hl1 : len = 2 := of_decide_eq_true hlen
    subst hl1
    simp only [jone] at hone
    split at hone
    · next hld => exact lv_aload hx hb hdec (hl.at hld) (hone.2 lsR H locs cells slots F)
    · exact hone.elim
  case istore_n n =>
    have hl1 : len = 1 := of_decide_eq_true hlen
    subst hl1
    simp only [jone] at hone
    split at hone
    · next x r =>
      cases hb1 : Nat.blt (n) ls.length with
      | false => rw [hb1] at hone; exact hone.elim
      | true =>
        rw [hb1] at hone
        have hlt := Nat.le_of_ble_eq_true hb1
        rw [hl.1] at hlt
        exact lv_istore_n hx hb hdec rfl hl.2 hlt rfl (fun ls2 hl2 => hone.2 ls2 H locs cells slots (F.to rfl hP hD hS (jLs.sto1 hl.1 hl2)))
    · exact hone.elim
  case istore n =>
    have hl1 : len = 2 := of_decide_eq_true hlen
    subst hl1
    simp only [jone] at hone
    split at hone
    · next x r =>
      cases hb1 : Nat.blt (n) ls.length with
      | false => rw [hb1] at hone; exact hone.elim
      | true =>
        rw [hb1] at hone
        have hlt := Nat.le_of_ble_eq_true hb1
        rw [hl.1] at hlt
        exact lv_istore hx hb hdec hl.2 hlt rfl (fun ls2 hl2 => hone.2 ls2 H locs cells slots (F.to rfl hP hD hS (jLs.sto1 hl.1 hl2)))
    · exact hone.elim
  case astore_n n =>
    have hl1 : len = 1 := of_decide_eq_true hlen
    subst hl1
    simp only [jone] at hone
    split at hone
    · next x r =>
      cases hb1 : Nat.blt (n) ls.length with
      | false => rw [hb1] at hone; exact hone.elim
      | true =>
        rw [hb1] at hone
        have hlt := Nat.le_of_ble_eq_true hb1
        rw [hl.1] at hlt
        exact lv_astore_n hx hb hdec rfl hl.2 hlt rfl (fun ls2 hl2 => hone.2 ls2 H locs cells slots (F.to rfl hP hD hS (jLs.sto1 hl.1 hl2)))
    · exact hone.elim
  case astore n =>
    have hl1 : len = 2 := of_decide_eq_true hlen
    subst hl1
    simp only [jone] at hone
    split at hone
    · next x r =>
      cases hb1 : Nat.blt (n) ls.length with
      | false => rw [hb1] at hone; exact hone.elim
      | true =>
        rw [hb1] at hone
        have hlt := Nat.le_of_ble_eq_true hb1
        rw [hl.1] at hlt
        exact lv_astore hx hb hdec hl.2 hlt rfl (fun ls2 hl2 => hone.2 ls2 H locs cells slots (F.to rfl hP hD hS (jLs.sto1 hl.1 hl2)))
    · exact hone.elim
  case lstore_n n =>
    have hl1 : len = 1 := of_decide_eq_true hlen
    subst hl1
    simp only [jone] at hone
    split at hone
    · next x r =>
      cases hb1 : Nat.blt (n + 1) ls.length with
      | false => rw [hb1] at hone; exact hone.elim
      | true =>
        rw [hb1] at hone
        have hlt := Nat.le_of_ble_eq_true hb1
        rw [hl.1] at hlt
        exact lv_lstore_n hx hb hdec rfl hl.2 hlt rfl (fun ls2 hl2 => hone.2 ls2 H locs cells slots (F.to rfl hP hD hS (jLs.sto2 hl.1 hlt hl2)))
    · exact hone.elim
  case lstore n =>
    have hl1 : len = 2 := of_decide_eq_true hlen
    subst hl1
    simp only [jone] at hone
    split at hone
    · next x r =>
      cases hb1 : Nat.blt (n + 1) ls.length with
      | false => rw [hb1] at hone; exact hone.elim
      | true =>
        rw [hb1] at hone
        have hlt := Nat.le_of_ble_eq_true hb1
        rw [hl.1] at hlt
        exact lv_lstore hx hb hdec hl.2 hlt rfl (fun ls2 hl2 => hone.2 ls2 H locs cells slots (F.to rfl hP hD hS (jLs.sto2 hl.1 hlt hl2)))
    · exact hone.elim
  case iinc n dl =>
    have hl1 : len = 3 := of_decide_eq_true hlen
    subst hl1
    simp only [jone] at hone
    split at hone
    · next x dv hld =>
      cases hb1 : Nat.blt n ls.length with
      | false => rw [hb1] at hone; exact hone.elim
      | true =>
        rw [hb1] at hone
        have hlt := Nat.le_of_ble_eq_true hb1
        rw [hl.1] at hlt
        have hv2 := of_decide_eq_true hxx
        injection hv2 with hv3
        obtain ⟨j, hj⟩ := List.getElem?_of_mem (mem_jas.mpr ⟨_, hld, rfl⟩ : ((n, tv τ (.int x)) : Nat × Value) ∈ jas τ ls)
        exact lv_iinc (v := x + dv) hx hb hdec hl.2 hj (by rw [hv3]) hlt rfl (fun ls2 hl2 => hone.2 ls2 H locs cells slots (F.to rfl hP hD hS (jLs.sto1 hl.1 hl2)))
    · exact hone.elim
  case dup =>
    have hl1 : len = 1 := of_decide_eq_true hlen
    subst hl1
    simp only [jone] at hone
    split at hone
    · exact lv_dup hx hb hdec rfl (hone.2 lsR H locs cells slots F)
    · exact lv_dup hx hb hdec rfl (hone.2 lsR H locs cells slots F)
    · exact hone.elim
  case pop =>
    have hl1 : len = 1 := of_decide_eq_true hlen
    subst hl1
    simp only [jone] at hone
    split at hone
    · exact lv_pop hx hb hdec rfl (hone.2 lsR H locs cells slots F)
    · exact lv_pop hx hb hdec rfl (hone.2 lsR H locs cells slots F)
    · exact hone.elim
  case dup2 =>
    have hl1 : len = 1 := of_decide_eq_true hlen
    subst hl1
    simp only [jone] at hone
    split at hone
    · exact lv_dup2_11 hx hb hdec rfl rfl (hone.2 lsR H locs cells slots F)
    · exact lv_dup2_2 hx hb hdec rfl (hone.2 lsR H locs cells slots F)
    · exact hone.elim
  case goto off =>
    have hl1 : len = 3 := of_decide_eq_true hlen
    subst hl1
    simp only [jone] at hone
    simp only [okX] at hxx
    split at hone
    · next t =>
      simp only [decide_eq_true_eq] at hxx
      exact lv_goto hx hb hdec hxx (hone.2 lsR H locs cells slots F)
    · exact hone.elim
  case ifCond cn off =>
    have hl1 : len = 3 := of_decide_eq_true hlen
    subst hl1
    simp only [jone] at hone
    simp only [okX] at hxx
    split at hone
    · simp only [decide_eq_true_eq] at hxx
      cases cn <;> simp only [j_br] at hone
      · exact lv_if_eq hx hb hdec hxx (fun h => by rw [if_pos h] at hone; exact (hone.2 lsR H locs cells slots F)) (fun h => by rw [if_neg h] at hone; exact (hone.2 lsR H locs cells slots F))
      · exact lv_if_ne hx hb hdec hxx (fun h => by rw [if_neg h] at hone; exact (hone.2 lsR H locs cells slots F)) (fun h => by rw [if_pos h] at hone; exact (hone.2 lsR H locs cells slots F))
      · exact lv_if_lt hx hb hdec hxx (fun h => by rw [if_pos h] at hone; exact (hone.2 lsR H locs cells slots F)) (fun h => by rw [if_neg h] at hone; exact (hone.2 lsR H locs cells slots F))
      · exact lv_if_ge hx hb hdec hxx (fun h => by rw [if_neg (Int32.not_lt.mpr h)] at hone; exact (hone.2 lsR H locs cells slots F)) (fun h => by rw [if_pos (Int32.not_le.mp h)] at hone; exact (hone.2 lsR H locs cells slots F))
      · exact lv_if_gt hx hb hdec hxx (fun h => by rw [if_pos h] at hone; exact (hone.2 lsR H locs cells slots F)) (fun h => by rw [if_neg h] at hone; exact (hone.2 lsR H locs cells slots F))
      · exact lv_if_le hx hb hdec hxx (fun h => by rw [if_neg (Int32.not_lt.mpr h)] at hone; exact (hone.2 lsR H locs cells slots F)) (fun h => by rw [if_pos (Int32.not_le.mp h)] at hone; exact (hone.2 lsR H locs cells slots F))
    · exact hone.elim
  case if_icmp cn off =>
    have hl1 : len = 3 := of_decide_eq_true hlen
    subst hl1
    simp only [jone] at hone
    simp only [okX] at hxx
    split at hone
    · simp only [decide_eq_true_eq] at hxx
      cases cn <;> simp only [j_br] at hone
      · exact lv_icmp_eq hx hb hdec hxx (fun h => by rw [if_pos h] at hone; exact (hone.2 lsR H locs cells slots F)) (fun h => by rw [if_neg h] at hone; exact (hone.2 lsR H locs cells slots F))
      · exact lv_icmp_ne hx hb hdec hxx (fun h => by rw [if_neg h] at hone; exact (hone.2 lsR H locs cells slots F)) (fun h => by rw [if_pos h] at hone; exact (hone.2 lsR H locs cells slots F))
      · exact lv_icmp_lt hx hb hdec hxx (fun h => by rw [if_pos h] at hone; exact (hone.2 lsR H locs cells slots F)) (fun h => by rw [if_neg h] at hone; exact (hone.2 lsR H locs cells slots F))
      · exact lv_icmp_ge hx hb hdec hxx (fun h => by rw [if_neg (Int32.not_lt.mpr h)] at hone; exact (hone.2 lsR H locs cells slots F)) (fun h => by rw [if_pos (Int32.not_le.mp h)] at hone; exact (hone.2 lsR H locs cells slots F))
      · exact lv_icmp_gt hx hb hdec hxx (fun h => by rw [if_pos h] at hone; exact (hone.2 lsR H locs cells slots F)) (fun h => by rw [if_neg h] at hone; exact (hone.2 lsR H locs cells slots F))
      · exact lv_icmp_le hx hb hdec hxx (fun h => by rw [if_neg (Int32.not_lt.mpr h)] at hone; exact (hone.2 lsR H locs cells slots F)) (fun h => by rw [if_pos (Int32.not_le.mp h)] at hone; exact (hone.2 lsR H locs cells slots F))
    · exact hone.elim
  case tableswitch dflt lo hi offs =>
    simp only [jone] at hone
    simp only [okX] at hxx
    split at hone
    · next dd ts x r =>
      simp only [Bool.and_eq_true, decide_eq_true_eq] at hxx
      obtain ⟨⟨⟨⟨g1, g2⟩, g3⟩, g4⟩, g5⟩ := hxx
      have hlen2 : offs.toList.length = ts.length := by have := congrArg List.length g2; simpa using this
      rcases j_sw_cases ts lo hone with ⟨i, t, h1, h2, h3⟩ | ⟨h1, h2⟩
      · have hi : i < ts.length := (List.getElem?_eq_some_iff.mp h1).1
        have hxi : x.toInt = lo + i := by rw [h2]; exact j_ofInt (by omega) (by omega)
        have h4 := congrArg (fun l => l[i]?) g2
        simp only [List.getElem?_map, h1, Option.map_some] at h4
        obtain ⟨off, h5, h6⟩ := Option.map_eq_some_iff.mp h4
        exact lv_tableIn (off := off) (tgt := t) hx hb hdec (by rw [hxi]; omega) (by rw [hxi]; omega) (by rw [hxi, show lo + (i : Int) - lo = (i : Int) by omega, Int.toNat_natCast, ← Array.getElem?_toList]; exact h5) h6 (h3.2 lsR H locs cells slots F)
      · refine lv_tableOut (tgt := dd) hx hb hdec ?_ g1 (h2.2 lsR H locs cells slots F)
        apply Classical.byContradiction
        intro hc
        have hc1 : ¬ x.toInt < lo := fun q => hc (Or.inl q)
        have hc2 : ¬ hi < x.toInt := fun q => hc (Or.inr q)
        refine h1 (x.toInt - lo).toNat (by omega) ?_
        apply Int32.toInt_inj.mp
        rw [j_ofInt (by omega) (by omega)]
        omega
    · exact hone.elim
  case lookupswitch dflt ps =>
    simp only [jone] at hone
    simp only [okX] at hxx
    split at hone
    · next dd ts x r =>
      simp only [Bool.and_eq_true, decide_eq_true_eq] at hxx
      obtain ⟨⟨⟨g1, g2⟩, g3⟩, g4⟩ := hxx
      obtain ⟨off, t, h1, h2, h3⟩ := j_sw2_cases g1 ps.toList ts g2 g4 hone
      exact lv_lookup hx hb hdec g3 h1 h2 (h3.2 lsR H locs cells slots F)
    · exact hone.elim
  case getfield i =>
    have hl1 : len = 3 := of_decide_eq_true hlen
    subst hl1
    simp only [jone] at hone
    simp only [okX] at hxx
    split at hone
    · next ci kf tc q y o r =>
      split at hone
      · next cn n ho =>
        cases hb1 : (cn.beq ci && Nat.blt kf n) with
        | false => rw [hb1] at hone; exact hone.elim
        | true =>
          rw [hb1] at hone
          simp only [Bool.and_eq_true] at hb1
          have hcn := Nat.eq_of_beq_eq_true hb1.1
          subst hcn
          have hkn := Nat.le_of_ble_eq_true hb1.2
          have htc : jty cn kf = tc := by
            simp only [okF] at hxx
            split at hxx
            · simp only [Bool.and_eq_true, decide_eq_true_eq] at hxx; exact hxx.1.2
            · cases hxx
          dsimp only [cond] at hone
          split at hone
          · exact js_get C F hxx hdec ho hkn (by simp only [jfv, htc]; rfl) hone.2
          · exact js_get C F hxx hdec ho hkn (by simp only [jfv, htc]; rfl) hone.2
          · exact js_get C F hxx hdec ho hkn (by simp only [jfv, htc]; rw [tv_rf]) hone.2
          · next h0 h1 h2 =>
            by_cases h3 : tc = 3
            · subst h3
              exact js_get C F hxx hdec ho hkn (by simp only [jfv, htc]; rfl) hone.2
            · exfalso
              simp only [okF] at hxx
              split at hxx
              · next Cn T N hcc =>
                simp only [Bool.and_eq_true, decide_eq_true_eq] at hxx
                obtain ⟨c1, c2, c3, c4, c5, ty, c6, c7⟩ := jCl_of cn Cn T N hcc
                have c8 := c7 kf hxx.1.1.1
                rw [htc] at c8
                simp only [tcOk] at c8
                first | (exact Bool.noConfusion c8) | (split at c8 <;> first | exact h0 rfl | exact h1 rfl | exact h2 rfl | exact h3 rfl | cases c8)
              · cases hxx
      · exact hone.elim
    · exact hone.elim
  case putfield i =>
    have hl1 : len = 3 := of_decide_eq_true hlen
    subst hl1
    simp only [jone] at hone
    simp only [okX, Bool.and_eq_true] at hxx
    obtain ⟨hok, hfi0⟩ := hxx
    split at hone
    · next ci kf tc q y v o r =>
      have hfi : ∀ C T N, vwCl[ci]? = some (C, T, N) → (T kf).2.2.2 = true → (jY k).1.name = "<init>" ∧ (jY k).1.cls = C := by
        intro Cn T N hcc hT
        dsimp only at hfi0
        rw [hcc] at hfi0
        dsimp only at hfi0
        rw [hT] at hfi0
        simpa using hfi0
      split at hone
      · next cn n ho =>
        cases hb1 : (cn.beq ci && Nat.blt kf n) with
        | false => rw [hb1] at hone; exact hone.elim
        | true =>
          rw [hb1] at hone
          simp only [Bool.and_eq_true] at hb1
          have hcn := Nat.eq_of_beq_eq_true hb1.1
          subst hcn
          have hkn := Nat.le_of_ble_eq_true hb1.2
          dsimp only [cond] at hone
          split at hone
          · exact js_put (v := .int v) (S' := (S.1, j_up S.2.1 o kf v, S.2.2)) C F hok hfi hdec ho hkn (fun ty h => by simp only [tcOk, decide_eq_true_eq] at h; subst h; exact ⟨rfl, rfl⟩) rfl (fun j hj => j_up_ne _ _ _ hj) (fun j hj => rfl) (fun j hj => rfl) (fun htc => by simp only [jfv, htc, j_up_row, va_up_self]; rfl) (fun j hj => by simp only [jfv, j_up_row, va_up_ne _ _ hj]) hone.2
          · split at hone
            · next hbo =>
              have hbb := j_bool hbo
              exact js_put (v := .int v) (S' := (S.1, j_up S.2.1 o kf v, S.2.2)) C F hok hfi hdec ho hkn (fun ty h => by simp only [tcOk, decide_eq_true_eq] at h; subst h; exact hbb) rfl (fun j hj => j_up_ne _ _ _ hj) (fun j hj => rfl) (fun j hj => rfl) (fun htc => by simp only [jfv, htc, j_up_row, va_up_self]; rfl) (fun j hj => by simp only [jfv, j_up_row, va_up_ne _ _ hj]) hone.2
            · exact hone.elim
          · exact hone.elim
      · exact hone.elim
    · next ci kf tc q y v o r =>
      have hfi : ∀ C T N, vwCl[ci]? = some (C, T, N) → (T kf).2.2.2 = true → (jY k).1.name = "<init>" ∧ (jY k).1.cls = C := by
        intro Cn T N hcc hT
        dsimp only at hfi0
        rw [hcc] at hfi0
        dsimp only at hfi0
        rw [hT] at hfi0
        simpa using hfi0
      split at hone
      · next cn n ho =>
        cases hb1 : (cn.beq ci && Nat.blt kf n) with
        | false => rw [hb1] at hone; exact hone.elim
        | true =>
          rw [hb1] at hone
          simp only [Bool.and_eq_true] at hb1
          have hcn := Nat.eq_of_beq_eq_true hb1.1
          subst hcn
          have hkn := Nat.le_of_ble_eq_true hb1.2
          dsimp only [cond] at hone
          split at hone
          · exact js_put (v := .long v) (S' := (S.1, S.2.1, j_up S.2.2.1 o kf v, S.2.2.2)) C F hok hfi hdec ho hkn (fun ty h => by simp only [tcOk, decide_eq_true_eq] at h; subst h; exact ⟨rfl, rfl⟩) rfl (fun j hj => rfl) (fun j hj => j_up_ne _ _ _ hj) (fun j hj => rfl) (fun htc => by simp only [jfv, htc, j_up_row, va_up_self]; rfl) (fun j hj => by simp only [jfv, j_up_row, va_up_ne _ _ hj]) hone.2
          · exact hone.elim
      · exact hone.elim
    · next ci kf tc q y v o r =>
      have hfi : ∀ C T N, vwCl[ci]? = some (C, T, N) → (T kf).2.2.2 = true → (jY k).1.name = "<init>" ∧ (jY k).1.cls = C := by
        intro Cn T N hcc hT
        dsimp only at hfi0
        rw [hcc] at hfi0
        dsimp only at hfi0
        rw [hT] at hfi0
        simpa using hfi0
      split at hone
      · next cn n ho =>
        cases hb1 : (cn.beq ci && Nat.blt kf n) with
        | false => rw [hb1] at hone; exact hone.elim
        | true =>
          rw [hb1] at hone
          simp only [Bool.and_eq_true] at hb1
          have hcn := Nat.eq_of_beq_eq_true hb1.1
          subst hcn
          have hkn := Nat.le_of_ble_eq_true hb1.2
          dsimp only [cond] at hone
          split at hone
          · exact js_put (v := .ref v) (S' := (S.1, S.2.1, S.2.2.1, j_up S.2.2.2 o kf (some v))) C F hok hfi hdec ho hkn (fun ty h => by simp only [tcOk] at h; cases ty <;> first | exact ⟨rfl, rfl⟩ | (simp [refKind] at h)) rfl (fun j hj => rfl) (fun j hj => rfl) (fun j hj => j_up_ne _ _ _ hj) (fun htc => by simp only [jfv, htc, j_up_row, va_up_self]; rfl) (fun j hj => by simp only [jfv, j_up_row, va_up_ne _ _ hj]) hone.2
          · exact hone.elim
      · exact hone.elim
    · exact hone.elim
  case getstatic i =>
    have hl1 : len = 3 := of_decide_eq_true hlen
    subst hl1
    simp only [jone] at hone
    split at hone
    · next q rr =>
      match rr, hxx with
      | [w, 0], hxx =>
        have hw : (decide (q < 7) && j_w w (.fieldLink (jY k).1.cls i "ShipYard" (jsn.getD q "") "[I")) = true := hxx
        simp only [Bool.and_eq_true, decide_eq_true_eq] at hw
        exact js_gets0 C F hw.1 hw.2 hdec hone.2
      | [w, 1], hxx =>
        have hw : (decide (q < 7) && j_w w (.fieldLinkNest (jY k).1.cls i "ShipYard" (jsn.getD q "") "[I" "ShipYard")) = true := hxx
        simp only [Bool.and_eq_true, decide_eq_true_eq] at hw
        exact js_gets1 C F hw.1 hw.2 hdec hone.2
      | [], hxx => cases hxx
      | [_], hxx => cases hxx
      | [_, _ + 2], hxx => cases hxx
      | _ :: _ :: _ :: _, hxx => simp [okX] at hxx
    · exact hone.elim
  case iaload =>
    have hl1 : len = 1 := of_decide_eq_true hlen
    subst hl1
    simp only [jone] at hone
    split at hone
    · exact js_ia C F hdec (j_ia_rel (fun (x y : Prop) => x → y) jTT S _ _ (fun h => h) (fun v h => h.2) hone)
    · exact hone.elim
  case baload =>
    have hl1 : len = 1 := of_decide_eq_true hlen
    subst hl1
    simp only [jone] at hone
    split at hone
    · exact js_ba C F hdec (j_ba_rel (fun (x y : Prop) => x → y) S _ _ (fun h => h) (fun v h => h.2) hone)
    · exact hone.elim
  case laload =>
    have hl1 : len = 1 := of_decide_eq_true hlen
    subst hl1
    simp only [jone] at hone
    split at hone
    · exact js_la C F hdec (j_la_rel (fun (x y : Prop) => x → y) S _ _ (fun h => h) (fun v h => h.2) hone)
    · exact hone.elim
  case aaload =>
    have hl1 : len = 1 := of_decide_eq_true hlen
    subst hl1
    simp only [jone] at hone
    split at hone
    · exact js_aa C F hdec (j_aa_rel (fun (x y : Prop) => x → y) S _ _ (fun h => h) (fun v h => h.2) hone)
    · exact hone.elim
  case iastore =>
    have hl1 : len = 1 := of_decide_eq_true hlen
    subst hl1
    simp only [jone] at hone
    split at hone
    · exact js_is C F hdec (j_is_rel (fun (x y : Prop) => x → y) S _ _ _ (fun h => h) (fun S' _ h => h.2) hone)
    · exact hone.elim
  case bastore =>
    have hl1 : len = 1 := of_decide_eq_true hlen
    subst hl1
    simp only [jone] at hone
    split at hone
    · exact js_bs C F hdec (j_bs_rel (fun (x y : Prop) => x → y) S _ _ _ (fun h => h) (fun S' _ h => h.2) hone)
    · exact hone.elim
  case lastore =>
    have hl1 : len = 1 := of_decide_eq_true hlen
    subst hl1
    simp only [jone] at hone
    split at hone
    · exact js_ls C F hdec (j_lst_rel (fun (x y : Prop) => x → y) S _ _ _ (fun h => h) (fun S' _ h => h.2) hone)
    · exact hone.elim
  case aastore =>
    have hl1 : len = 1 := of_decide_eq_true hlen
    subst hl1
    simp only [jone] at hone
    split at hone
    · exact js_as C F hdec (j_as_rel (fun (x y : Prop) => x → y) S _ _ _ (fun h => h) (fun S' _ h => h.2) hone)
    · exact hone.elim
  case arraylength =>
    have hl1 : len = 1 := of_decide_eq_true hlen
    subst hl1
    simp only [jone] at hone
    split at hone
    · exact js_al C F hdec (j_al_rel (fun (x y : Prop) => x → y) jTT S _ (fun h => h) (fun v h => h.2) hone)
    · exact hone.elim
  case newarray at0 =>
    have hl1 : len = 2 := of_decide_eq_true hlen
    subst hl1
    simp only [jone] at hone
    have hroom : ∀ (x : Nat × Nat), S.1 ++ [x] <+: Sf.1 → cells + 1 ≤ R.cells ∧ slots + x.2 ≤ R.slots ∧ jTi τ S0.1.length s.heap := by
      intro x hp
      have h1 := hp.length_le
      have h2 := jsz_le hp
      rw [jsz_push] at h2
      rw [List.length_append, List.length_singleton] at h1
      exact ⟨by omega, by omega, hEn (by omega)⟩
    split at hone
    · next kk rr n r =>
      split at hone
      · exact hone.elim
      · next hn =>
        cases hb1 : (Nat.ble n.toNatClampNeg 1000000 && Nat.ble S.1.length 900) with
        | false => rw [hb1] at hone; exact hone.elim
        | true =>
          rw [hb1] at hone
          simp only [Bool.and_eq_true] at hb1
          have h9 := Nat.le_of_ble_eq_true hb1.1
          have h10 := Nat.le_of_ble_eq_true hb1.2
          dsimp only [cond] at hone
          match rr, hxx with
          | [], hxx =>
            cases at0 with
            | int =>
              have hk := of_decide_eq_true hxx
              subst hk
              obtain ⟨r1, r2, r3⟩ := hroom _ hone.1
              exact js_na_i C F hdec r3 hn h9 r1 r2 h10 hone.2
            | byte =>
              have hk := of_decide_eq_true hxx
              subst hk
              obtain ⟨r1, r2, r3⟩ := hroom _ hone.1
              exact js_na_b C F hdec r3 hn h9 r1 r2 h10 hone.2
            | boolean =>
              have hk := of_decide_eq_true hxx
              subst hk
              obtain ⟨r1, r2, r3⟩ := hroom _ hone.1
              exact js_na_z C F hdec r3 hn h9 r1 r2 h10 hone.2
            | long =>
              have hk := of_decide_eq_true hxx
              subst hk
              obtain ⟨r1, r2, r3⟩ := hroom _ hone.1
              exact js_na_l C F hdec r3 hn h9 r1 r2 h10 hone.2
            | _ => cases hxx
          | _ :: _, hxx => cases hxx
    · exact hone.elim
  case anewarray i =>
    have hl1 : len = 3 := of_decide_eq_true hlen
    subst hl1
    simp only [jone] at hone
    have hroom : ∀ (x : Nat × Nat), S.1 ++ [x] <+: Sf.1 → cells + 1 ≤ R.cells ∧ slots + x.2 ≤ R.slots ∧ jTi τ S0.1.length s.heap := by
      intro x hp
      have h1 := hp.length_le
      have h2 := jsz_le hp
      rw [jsz_push] at h2
      rw [List.length_append, List.length_singleton] at h1
      exact ⟨by omega, by omega, hEn (by omega)⟩
    split at hone
    · next n r =>
      split at hone
      · exact hone.elim
      · next hn =>
        cases hb1 : (Nat.ble n.toNatClampNeg 1000000 && Nat.ble S.1.length 900) with
        | false => rw [hb1] at hone; exact hone.elim
        | true =>
          rw [hb1] at hone
          simp only [Bool.and_eq_true] at hb1
          have h9 := Nat.le_of_ble_eq_true hb1.1
          have h10 := Nat.le_of_ble_eq_true hb1.2
          dsimp only [cond] at hone
          match aux, hxx with
          | [w], hxx =>
            have hw : j_w w (.classLink (jY k).1.cls i "ShipYard$Person") = true := hxx
            obtain ⟨r1, r2, r3⟩ := hroom _ hone.1
            exact js_na_q C F hw hdec r3 hn h9 r1 r2 h10 hone.2
          | [], hxx => cases hxx
          | _ :: _ :: _, hxx => cases hxx
    · exact hone.elim
  case new i =>
    have hl1 : len = 3 := of_decide_eq_true hlen
    subst hl1
    simp only [jone] at hone
    have hroom : ∀ (x : Nat × Nat), S.1 ++ [x] <+: Sf.1 → cells + 1 ≤ R.cells ∧ slots + x.2 ≤ R.slots ∧ jTi τ S0.1.length s.heap := by
      intro x hp
      have h1 := hp.length_le
      have h2 := jsz_le hp
      rw [jsz_push] at h2
      rw [List.length_append, List.length_singleton] at h1
      exact ⟨by omega, by omega, hEn (by omega)⟩
    split at hone
    · next ci n rr =>
      cases hb1 : Nat.ble S.1.length 900 with
      | false => rw [hb1] at hone; exact hone.elim
      | true =>
        rw [hb1] at hone
        have h10 := Nat.le_of_ble_eq_true hb1
        dsimp only [cond] at hone
        match rr, hxx with
        | [q], hxx =>
          simp only [okX] at hxx
          split at hxx
          · next Cn T N hcc =>
            simp only [Bool.and_eq_true, decide_eq_true_eq] at hxx
            obtain ⟨hN, hw⟩ := hxx
            subst hN
            obtain ⟨r1, r2, r3⟩ := hroom _ hone.1
            exact js_new C F hcc hw hdec r3 r1 r2 h10 hone.2
          · cases hxx
        | [], hxx => cases hxx
        | _ :: _ :: _, hxx => cases hxx
    · exact hone.elim
  case invokestatic i =>
    have hl1 : len = 3 := of_decide_eq_true hlen
    subst hl1
    simp only [jone] at hone
    have hcall : ∀ (S' : jS), S.1 <+: S'.1 → S'.1 <+: Sf.1 → cells + (S'.1.length - S.1.length) ≤ R.cells ∧ slots + (jsz S'.1 - jsz S.1) ≤ R.slots ∧ (S'.1.length ≠ S.1.length → jTi τ S0.1.length s.heap) := by
      intro S' hp1 hp2
      have h1 := hp2.length_le
      have h2 := jsz_le hp2
      have h3 := hp1.length_le
      have h4 := jsz_le hp1
      exact ⟨by omega, by omega, fun h => hEn (by omega)⟩
    have hcr : cells ≤ R.cells ∧ slots ≤ R.slots := by
      have h1 := hpre.length_le
      have h2 := jsz_le hpre
      exact ⟨by omega, by omega⟩
    split at hone
    · next k' n rr =>
      split at hone
      · next as r hpop =>
        cases hb1 : Nat.ble (j_sum r) 8 with
        | false => rw [hb1] at hone; exact hone.elim
        | true =>
          rw [hb1] at hone
          obtain ⟨d', v, S', hd', hM, hp1, hp2, hk⟩ := hone
          obtain ⟨r1, r2, r3⟩ := hcall S' hp1 hp2
          match rr, hxx with
          | q :: _, hxx =>
            have hw : (decide (k' < jYL.length) && j_w q (.methodLink (jY k).1.cls i (jY k').1) && j_np (jY k').1 n && decide ((jpos.getD k' []).getD 4 9 = 0)) = true := hxx
            simp only [Bool.and_eq_true, decide_eq_true_eq] at hw
            exact js_callS C F hd' (hokM _ hw.1.1.1) hM hp1 r3 r1 r2 hb1 hw.2 hw.1.1.2 hw.1.2 hdec hpop hk
          | [], hxx => cases hxx
      · exact hone.elim
    · next rr =>
      split at hone
      · cases hb1 : Nat.ble (j_sum _) 8 with
        | false => rw [hb1] at hone; exact hone.elim
        | true =>
          rw [hb1] at hone
          match rr, hxx with
          | q :: _, hxx =>
            have hw : j_w q (.methodLink (jY k).1.cls i Lib.Math.max.name) = true := hxx
            exact js_max C F hw hdec hcr.1 hcr.2 hb1 hone.2
          | [], hxx => cases hxx
      · exact hone.elim
    · next rr =>
      split at hone
      · cases hb1 : Nat.ble (j_sum _) 8 with
        | false => rw [hb1] at hone; exact hone.elim
        | true =>
          rw [hb1] at hone
          match rr, hxx with
          | q :: _, hxx =>
            have hw : j_w q (.methodLink (jY k).1.cls i Lib.Math.min.name) = true := hxx
            exact js_min C F hw hdec hcr.1 hcr.2 hb1 hone.2
          | [], hxx => cases hxx
      · exact hone.elim
    · next rr =>
      split at hone
      · cases hb1 : Nat.ble (j_sum _) 8 with
        | false => rw [hb1] at hone; exact hone.elim
        | true =>
          rw [hb1] at hone
          match rr, hxx with
          | q :: _, hxx =>
            have hw : j_w q (.methodLink (jY k).1.cls i Lib.MathLoose.abs_long.x) = true := hxx
            exact js_abs C F hw hdec hcr.1 hcr.2 hb1 hone.2
          | [], hxx => cases hxx
      · exact hone.elim
    · next rr =>
      split at hone
      · split at hone
        · next ha hd2 =>
          split at hone
          · exact hone.elim
          · next hn =>
            cases hb1 : Nat.ble (j_sum _) 8 with
            | false => rw [hb1] at hone; exact hone.elim
            | true =>
              rw [hb1] at hone
              match rr, hxx with
              | q :: _, hxx =>
                have hw : j_w q (.methodLink (jY k).1.cls i arraycopyName) = true := hxx
                exact js_copy C F hw hdec ha hd2 hn hb1 hone.2
              | [], hxx => cases hxx
        · exact hone.elim
      · exact hone.elim
    · exact hone.elim
  case invokevirtual i =>
    have hl1 : len = 3 := of_decide_eq_true hlen
    subst hl1
    simp only [jone] at hone
    have hcall : ∀ (S' : jS), S.1 <+: S'.1 → S'.1 <+: Sf.1 → cells + (S'.1.length - S.1.length) ≤ R.cells ∧ slots + (jsz S'.1 - jsz S.1) ≤ R.slots ∧ (S'.1.length ≠ S.1.length → jTi τ S0.1.length s.heap) := by
      intro S' hp1 hp2
      have h1 := hp2.length_le
      have h2 := jsz_le hp2
      have h3 := hp1.length_le
      have h4 := jsz_le hp1
      exact ⟨by omega, by omega, fun h => hEn (by omega)⟩
    have hcr : cells ≤ R.cells ∧ slots ≤ R.slots := by
      have h1 := hpre.length_le
      have h2 := jsz_le hpre
      exact ⟨by omega, by omega⟩
    split at hone
    · next k' n ci rr =>
      split at hone
      · next as o r hpop =>
        split at hone
        · next cn nn ho =>
          cases hb1 : (cn.beq ci && Nat.ble (j_sum r) 8) with
          | false => rw [hb1] at hone; exact hone.elim
          | true =>
            rw [hb1] at hone
            simp only [Bool.and_eq_true] at hb1
            have hcn := Nat.eq_of_beq_eq_true hb1.1
            subst hcn
            obtain ⟨d', v, S', hd', hM, hp1, hp2, hk⟩ := hone
            obtain ⟨r1, r2, r3⟩ := hcall S' hp1 hp2
            match rr, hxx with
            | q :: _, hxx =>
              simp only [okX] at hxx
              split at hxx
              · next Cn T N hcc =>
                simp only [Bool.and_eq_true, decide_eq_true_eq] at hxx
                exact js_callV C F hd' (hokM _ hxx.1.1.1.1) hM hp1 r3 r1 r2 hb1.2 hcc hxx.1.1.1.2 ho hxx.2 hxx.1.1.2 hxx.1.2 hdec rfl hpop hk
              · cases hxx
            | [], hxx => cases hxx
        · exact hone.elim
      · exact hone.elim
    · next rr =>
      split at hone
      · split at hone
        · next t ht =>
          cases hb1 : (Nat.ble 2000 _ && Nat.ble (j_sum _) 8) with
          | false => rw [hb1] at hone; exact hone.elim
          | true =>
            rw [hb1] at hone
            simp only [Bool.and_eq_true] at hb1
            match rr, hxx with
            | q :: _, hxx =>
              have hw : j_w q (.methodLink (jY k).1.cls i ⟨"java/lang/String", "length", "()I"⟩) = true := hxx
              exact js_len C F (i := 0) hw hdec hcr.1 hcr.2 (Nat.le_of_ble_eq_true hb1.1) ht hb1.2 hone.2
            | [], hxx => cases hxx
        · exact hone.elim
      · exact hone.elim
    · next rr =>
      split at hone
      · split at hone
        · next t ht =>
          cases hb1 : (Nat.ble 2000 _ && Nat.ble (j_sum _) 8) with
          | false => rw [hb1] at hone; exact hone.elim
          | true =>
            rw [hb1] at hone
            simp only [Bool.and_eq_true] at hb1
            dsimp only [cond] at hone
            split at hone
            · next hi =>
              match rr, hxx with
              | q :: _, hxx =>
                have hw : j_w q (.methodLink (jY k).1.cls i ⟨"java/lang/String", "charAt", "(I)C"⟩) = true := hxx
                exact js_cha C F hw hdec hcr.1 hcr.2 (Nat.le_of_ble_eq_true hb1.1) ht hi hb1.2 hone.2
              | [], hxx => cases hxx
            · exact hone.elim
        · exact hone.elim
      · exact hone.elim
    · next rr =>
      split at hone
      · split at hone
        · next t ht =>
          cases hb1 : (Nat.ble 2000 _ && Nat.ble (j_sum _) 8) with
          | false => rw [hb1] at hone; exact hone.elim
          | true =>
            rw [hb1] at hone
            simp only [Bool.and_eq_true] at hb1
            match rr, hxx with
            | q :: _, hxx =>
              have hw : j_w q (.methodLink (jY k).1.cls i ⟨"java/lang/String", "indexOf", "(I)I"⟩) = true := hxx
              exact js_ixo C F hw hdec hcr.1 hcr.2 (Nat.le_of_ble_eq_true hb1.1) ht hb1.2 hone.2
            | [], hxx => cases hxx
        · exact hone.elim
      · exact hone.elim
    · exact hone.elim
  case invokespecial i =>
    have hl1 : len = 3 := of_decide_eq_true hlen
    subst hl1
    simp only [jone] at hone
    have hcall : ∀ (S' : jS), S.1 <+: S'.1 → S'.1 <+: Sf.1 → cells + (S'.1.length - S.1.length) ≤ R.cells ∧ slots + (jsz S'.1 - jsz S.1) ≤ R.slots ∧ (S'.1.length ≠ S.1.length → jTi τ S0.1.length s.heap) := by
      intro S' hp1 hp2
      have h1 := hp2.length_le
      have h2 := jsz_le hp2
      have h3 := hp1.length_le
      have h4 := jsz_le hp1
      exact ⟨by omega, by omega, fun h => hEn (by omega)⟩
    have hcr : cells ≤ R.cells ∧ slots ≤ R.slots := by
      have h1 := hpre.length_le
      have h2 := jsz_le hpre
      exact ⟨by omega, by omega⟩
    split at hone
    · next k' n rr =>
      split at hone
      · next as o r hpop =>
        cases hb1 : Nat.ble (j_sum r) 8 with
        | false => rw [hb1] at hone; exact hone.elim
        | true =>
          rw [hb1] at hone
          obtain ⟨d', v, S', hd', hM, hp1, hp2, hk⟩ := hone
          obtain ⟨r1, r2, r3⟩ := hcall S' hp1 hp2
          match rr, hxx with
          | [q, 0], hxx =>
            have hw : (decide (k' < jYL.length) && j_w q (.methodLink (jY k).1.cls i (jY k').1) && j_np (jY k').1 n && decide ((jY k').1.name = "<init>") && decide ((jpos.getD k' []).getD 4 9 = 2)) = true := hxx
            simp only [Bool.and_eq_true, decide_eq_true_eq] at hw
            exact js_callI C F hd' (hokM _ hw.1.1.1.1) hM hp1 r3 r1 r2 hb1 hw.1.2 (hokR _ hw.1.2) hw.2 hw.1.1.1.2 hw.1.1.2 hdec rfl hpop hk
          | [q, 1], hxx =>
            have hw : (decide (k' < jYL.length) && j_w q (.methodLinkNest (jY k).1.cls i (jY k').1 "ShipYard") && j_np (jY k').1 n && decide ((jY k').1.name = "<init>") && decide ((jpos.getD k' []).getD 4 9 = 2)) = true := hxx
            simp only [Bool.and_eq_true, decide_eq_true_eq] at hw
            exact js_callN C F hd' (hokM _ hw.1.1.1.1) hM hp1 r3 r1 r2 hb1 hw.1.2 (hokR _ hw.1.2) hw.2 hw.1.1.1.2 hw.1.1.2 hdec rfl hpop hk
          | [], hxx => cases hxx
          | [_], hxx => cases hxx
          | [_, _ + 2], hxx => cases hxx
          | _ :: _ :: _ :: _, hxx => simp [okX] at hxx
      · exact hone.elim
    · next rr =>
      split at hone
      · cases hb1 : Nat.ble (j_sum _) 8 with
        | false => rw [hb1] at hone; exact hone.elim
        | true =>
          rw [hb1] at hone
          match rr, hxx with
          | q :: _, hxx =>
            have hw : j_w q (.methodLink (jY k).1.cls i Lib.objectInit) = true := hxx
            exact js_objInit C F hw hdec hb1 hone.2
          | [], hxx => cases hxx
      · exact hone.elim
    · exact hone.elim
  case ireturn =>
    have hl1 : len = 1 := of_decide_eq_true hlen
    subst hl1
    simp only [jone] at hone
    simp only [okX] at hxx
    refine jW_size (fun hz => ?_)
    split at hone
    · next v =>
      simp only [decide_eq_true_eq] at hxx
      obtain ⟨hq, rfl, rfl⟩ := js_end C F hfin hone hz
      exact W.iret hx hb (hr.trans hxx) hq hS.2.2 hdec hlk
    · next v =>
      simp only [decide_eq_true_eq] at hxx
      split at hone
      · next hbo =>
        obtain ⟨hq, rfl, rfl⟩ := js_end C F hfin hone hz
        exact W.zret hx hb (hr.trans hxx) (j_bool hbo).1 hq hS.2.2 hdec hlk
      · exact hone.elim
    · exact hone.elim
  case lreturn =>
    have hl1 : len = 1 := of_decide_eq_true hlen
    subst hl1
    simp only [jone] at hone
    simp only [okX, decide_eq_true_eq] at hxx
    refine jW_size (fun hz => ?_)
    split at hone
    · obtain ⟨hq, rfl, rfl⟩ := js_end C F hfin hone hz
      exact W.lret hx hb (hr.trans hxx) hq hS.2.2 hdec hlk
    · exact hone.elim
  case areturn =>
    have hl1 : len = 1 := of_decide_eq_true hlen
    subst hl1
    simp only [jone] at hone
    simp only [okX, decide_eq_true_eq] at hxx
    refine jW_size (fun hz => ?_)
    split at hone
    · obtain ⟨hq, rfl, rfl⟩ := js_end C F hfin hone hz
      exact W.aret hx hb (hr.trans hxx) (Or.inr ⟨_, rfl⟩) (Or.inr ⟨_, rfl⟩) hq hS.2.2 hdec hlk
    · exact hone.elim
  case return_ =>
    have hl1 : len = 1 := of_decide_eq_true hlen
    subst hl1
    simp only [jone] at hone
    simp only [okX, decide_eq_true_eq] at hxx
    refine jW_size (fun hz => ?_)
    split at hone
    · obtain ⟨hq, rfl, rfl⟩ := js_end C F hfin hone hz
      exact W.vret hx hb (hr.trans hxx) hq hS.2.2 hdec hlk
    · exact hone.elim
  all_goals exact False.elim hone
end JMAIN
