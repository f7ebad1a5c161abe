/-! EVERY RUN OF THE INTERPRETER IS THE MACHINE'S -/
def jAll : Prop := (∀ k, k < jYL.length → okM k = true) ∧ (∀ k, k < jYL.length → (jMM k).1.all (okE (jY k)) = true)
set_option maxRecDepth 100000 in
theorem j_okR0 : jYL.all (fun q => decide (q.1.name ≠ "<init>") || decide (q.2.2.2 = none)) = true := by decide +kernel
theorem j_okR : ∀ k', (jY k').1.name = "<init>" → (jY k').2.2.2 = none := by
  intro k' h
  unfold jY at h ⊢
  rw [List.getD_eq_getElem?_getD] at h ⊢
  cases hq : jYL[k']? with
  | none => rfl
  | some q =>
    rw [hq] at h
    have h1 := List.all_eq_true.mp j_okR0 q (List.mem_of_getElem? hq)
    simp only [Option.getD_some] at h ⊢
    simpa [h] using h1
set_option maxRecDepth 100000 in
theorem j_same_len : jML.length = jYL.length := by decide +kernel
theorem jMM_lt {k pc : Nat} {e : jE} (h : j_at (jMM k).1 pc = some e) : k < jYL.length := by
  apply Classical.byContradiction
  intro hk
  have : jMM k = ([], 0) := by
    unfold jMM
    rw [List.getD_eq_getElem?_getD, List.getElem?_eq_none (by rw [j_same_len]; omega)]
    rfl
  rw [this] at h
  simp [j_at] at h
theorem j_at_mem {pc : Nat} {e : jE} : ∀ {c : List jE}, j_at c pc = some e → e ∈ c ∧ e.1 = pc := by
  intro c
  induction c with
  | nil => intro h; simp [j_at] at h
  | cons a l ih =>
    intro h
    simp only [j_at] at h
    cases hb : a.1.beq pc with
    | true =>
      rw [hb] at h
      cases h
      exact ⟨List.mem_cons_self, Nat.eq_of_beq_eq_true hb⟩
    | false =>
      rw [hb] at h
      have := ih h
      exact ⟨List.mem_cons_of_mem _ this.1, this.2⟩
theorem j_wd_le : ∀ (as : List Value) (n : Nat), n ≤ 23 → j_wd as ≤ n → (lg_sl as).length ≤ n ∧ ∀ w ∈ as, ∀ x, w ≠ Value.double x := by
  intro as
  induction as with
  | nil => intro n _ _; exact ⟨Nat.zero_le _, fun w hw => absurd hw List.not_mem_nil⟩
  | cons v r ih =>
    intro n hn h
    rw [lg_sl_cons]
    cases v with
    | long x =>
      simp only [j_wd] at h
      obtain ⟨h1, h2⟩ := ih (n - 2) (by omega) (by omega)
      refine ⟨?_, ?_⟩
      · show 2 + _ ≤ n
        omega
      · intro w hw
        rcases List.mem_cons.mp hw with rfl | hw
        · intro x q; cases q
        · exact h2 w hw
    | double x => simp only [j_wd] at h; omega
    | int x =>
      simp only [j_wd] at h
      obtain ⟨h1, h2⟩ := ih (n - 1) (by omega) (by omega)
      refine ⟨?_, ?_⟩
      · show 1 + _ ≤ n
        omega
      · intro w hw
        rcases List.mem_cons.mp hw with rfl | hw
        · intro x q; cases q
        · exact h2 w hw
    | float x =>
      simp only [j_wd] at h
      obtain ⟨h1, h2⟩ := ih (n - 1) (by omega) (by omega)
      refine ⟨?_, ?_⟩
      · show 1 + _ ≤ n
        omega
      · intro w hw
        rcases List.mem_cons.mp hw with rfl | hw
        · intro x q; cases q
        · exact h2 w hw
    | null =>
      simp only [j_wd] at h
      obtain ⟨h1, h2⟩ := ih (n - 1) (by omega) (by omega)
      refine ⟨?_, ?_⟩
      · show 1 + _ ≤ n
        omega
      · intro w hw
        rcases List.mem_cons.mp hw with rfl | hw
        · intro x q; cases q
        · exact h2 w hw
    | ref x =>
      simp only [j_wd] at h
      obtain ⟨h1, h2⟩ := ih (n - 1) (by omega) (by omega)
      refine ⟨?_, ?_⟩
      · show 1 + _ ≤ n
        omega
      · intro w hw
        rcases List.mem_cons.mp hw with rfl | hw
        · intro x q; cases q
        · exact h2 w hw
    | retAddr x =>
      simp only [j_wd] at h
      obtain ⟨h1, h2⟩ := ih (n - 1) (by omega) (by omega)
      refine ⟨?_, ?_⟩
      · show 1 + _ ≤ n
        omega
      · intro w hw
        rcases List.mem_cons.mp hw with rfl | hw
        · intro x q; cases q
        · exact h2 w hw
/-- the statement at a fuel -/
def jSnd (n : Nat) : Prop := ∀ (d k pc : Nat) (ls : jL) (st : List Value) (S : jS) (vf : Option Value) (Sf : jS), jrun jTT jMM n d k pc ls st S = some (vf, Sf) →
  ∀ (p : Program) (l : Launch) (e : Env) (R : Room) (s : State) (m : MethodId) (args : Array Value) (below : List Frame) (meth : Method) (c : Code) (dC : Nat → ClassId) (dI : Nat → Nat → Nat) (dA : Nat → ClassId) (τ : Nat → Nat) (A : Nat → Prop) (S0 : jS),
  jCx p l R s m args meth c dC dI dA τ A k d → (Sf.1.length = S0.1.length + R.cells ∧ jsz Sf.1 = jsz S0.1 + R.slots) → (Sf.1.length ≠ S0.1.length → jTi τ S0.1.length s.heap) →
  jK p l e R s m args below meth c (MQ below (jQ dC dI dA τ A S0 vf Sf) args s R.cells R.slots A) dC dI dA τ A k S0.1.length (jsz S0.1) pc ls st S
set_option maxHeartbeats 1000000 in
/-- a run from a method's entry is a contract of it -/
theorem j_met (hall : jAll) {n : Nat} (ih : jSnd n) {l : Launch} {dC : Nat → ClassId} {dI : Nat → Nat → Nat} {dA : Nat → ClassId} {τ : Nat → Nat} {A : Nat → Prop} (hstr : jStr l τ A) {d k : Nat} {as : List Value} {S S' : jS} {v : Option Value} (hk : k < jYL.length) (hw : j_wd as ≤ (jMM k).2) (h : jrun jTT jMM n d k 0 (j_ent (jMM k).2 as) [] S = some (v, S')) :
    Met l (jY k).1 (jwk k) (jrm d S S') (jPc dC dI dA τ A as S S') (jQ dC dI dA τ A S v S') (S'.1.length - S.1.length) (jsz S'.1 - jsz S.1) A := by
  obtain ⟨m1, m2, m3, m4, m5, m6, m7, m8, m9, m10⟩ := okM_of (hall.1 k hk)
  have hgr : S.1 <+: S'.1 := jrun_grows n d k 0 _ [] S _ h
  have hlen := hgr.length_le
  have hsz := jsz_le hgr
  refine Met.ofW (cc := (jY k).2.1) (maxL := (jY k).2.2.1) (ret := (jY k).2.2.2) m3 rfl ?_
  intro p e s m args below meth c s₁ B hml hv
  obtain ⟨rfl, hP, hD, hfx, hA, hti, hl0, hl1⟩ := hv
  have hts0 := atoms_spec (ws := jwk k) B.pre
  have hts : ∀ w ∈ jgood, w.before (as.map (tv τ)).toArray s = true := fun w hw => hts0 w (List.mem_cons_of_mem _ hw)
  have hC : jCx p l (jrm d S S') s m (as.map (tv τ)).toArray meth c dC dI dA τ A k d := ⟨B.exec, B.bytes, hml, B.returns, B.notSynchronized, findClass_of_methodNamed B.named, fun q => by rw [(name_of_methodNamed B.named B.method).1]; exact q, hts, hfx, hA, Nat.le_refl _, Nat.le_refl _, hstr⟩
  obtain ⟨g1, g2⟩ := j_wd_le as (jMM k).2 (by rw [m7]; exact m6) hw
  have hK := ih d k 0 _ [] S v S' h p l e (jrm d S S') s m (as.map (tv τ)).toArray below meth c dC dI dA τ A S hC ⟨by show S'.1.length = S.1.length + (S'.1.length - S.1.length); omega, by show jsz S'.1 = jsz S.1 + (jsz S'.1 - jsz S.1); omega⟩ hti
  have hls := jLs.ent (τ := τ) g1 g2
  rw [lg_entry_eq]
  have hK2 := hK _ s.heap [] 0 0 ⟨hP, hD, va_S.rf, by rw [m7] at hls ⊢; exact hls, ⟨hl0, hl1⟩, rfl, rfl⟩
  exact hK2
theorem j_sound (hall : jAll) : ∀ n, jSnd n := by
  intro n
  induction n with
  | zero => intro d k pc ls st S vf Sf h; exact absurd h (by simp [jrun])
  | succ n ih =>
    intro d k pc ls st S vf Sf h p l e R s m args below meth c dC dI dA τ A S0 hC hfin hEn lsR H locs cells slots F
    have hpre := jrun_grows _ _ _ _ _ _ _ _ h
    rw [jrun] at h
    cases hz : j_at (jMM k).1 pc with
    | none => rw [hz] at h; exact absurd h (by simp)
    | some ent =>
      rw [hz] at h
      have hk := jMM_lt hz
      obtain ⟨hmem, hpc⟩ := j_at_mem hz
      subst hpc
      refine j_step hC F hfin hEn hpre hall.1 j_okR (List.all_eq_true.mp (hall.2 k hk) ent hmem) ?_
      revert h
      refine jone_rel (fun (x : jO) (y : Prop) => x = some (vf, Sf) → y) jTT (fun q => absurd q (by simp)) (fun pc ls st S' hS h => ⟨jrun_grows _ _ _ _ _ _ _ _ h, ih d k pc ls st S' vf Sf h p l e R s m args below meth c dC dI dA τ A S0 hC hfin hEn⟩) ?_ (fun v q => by cases q; exact ⟨rfl, rfl⟩) ent ls st
      intro k' as pc' ls' st' h
      cases d with
      | zero => exact absurd h (by simp)
      | succ d' =>
        dsimp only at h
        cases hz2 : Nat.ble (j_wd as) (jMM k').2 with
        | false => rw [hz2] at h; exact absurd h (by simp)
        | true =>
          rw [hz2] at h
          dsimp only [cond] at h
          cases hq : jrun jTT jMM n d' k' 0 (j_ent (jMM k').2 as) [] S with
          | none => rw [hq] at h; exact absurd h (by simp)
          | some q =>
            rw [hq] at h
            obtain ⟨v, S'⟩ := q
            have hk' : k' < jYL.length := by
              cases n with
              | zero => exact absurd hq (by simp [jrun])
              | succ n =>
                rw [jrun] at hq
                cases hz3 : j_at (jMM k').1 0 with
                | none => rw [hz3] at hq; exact absurd hq (by simp)
                | some ent' => exact jMM_lt hz3
            exact ⟨d', v, S', rfl, j_met hall ih hC.2.2.2.2.2.2.2.2.2.2.2.2 hk' (Nat.le_of_ble_eq_true hz2) hq, jrun_grows _ _ _ _ _ _ _ _ hq, jrun_grows _ _ _ _ _ _ _ _ h, ih (d' + 1) k pc' ls' _ S' vf Sf h p l e R s m args below meth c dC dI dA τ A S0 hC hfin hEn⟩
/-- the contract of a method out of a run without fuel -/
theorem j_contract (hall : jAll) {l : Launch} (dC : Nat → ClassId) (dI : Nat → Nat → Nat) (dA : Nat → ClassId) {τ : Nat → Nat} {A : Nat → Prop} (hstr : jStr l τ A) {d k : Nat} {as : List Value} {S S' : jS} {v : Option Value} (hw : Nat.ble (j_wd as) (jMM k).2 = true) (h : jev jTT jMM d k 0 (j_ent (jMM k).2 as) [] S = some (v, S')) :
    Met l (jY k).1 (jwk k) (jrm d S S') (jPc dC dI dA τ A as S S') (jQ dC dI dA τ A S v S') (S'.1.length - S.1.length) (jsz S'.1 - jsz S.1) A := by
  obtain ⟨n, hn⟩ := jev_iff.mp h
  have hk : k < jYL.length := by
    cases n with
    | zero => exact absurd hn (by simp [jrun])
    | succ n =>
      rw [jrun] at hn
      cases hz3 : j_at (jMM k).1 0 with
      | none => rw [hz3] at hn; exact absurd hn (by simp)
      | some ent' => exact jMM_lt hz3
  exact j_met hall (j_sound hall n) hstr hk (Nat.le_of_ble_eq_true hw) hn
