/-! KINDS OF ANSWERS; THE START -/
section SECN
/-- the instruction gives back no long, no reference, and not nothing -/
def kdN (e : jE) : Bool := match e.2.1 with
  | .lreturn => false
  | .areturn => false
  | .return_ => false
  | _ => true
def kdG (e : jE) : Bool := match e.2.1 with
  | .ireturn => false
  | .areturn => false
  | .return_ => false
  | _ => true
def rtI (v : Option Value) (S : jS) : jO := match v with
  | some (.int x) => some (some (.int x), S)
  | _ => none
def rtL (v : Option Value) (S : jS) : jO := match v with
  | some (.long x) => some (some (.long x), S)
  | _ => none
theorem jone_int (T : jT) (kt : Nat → jL → List Value → jS → jO) (cl : Nat → List Value → Nat → jL → List Value → jS → jO) (e : jE) (h : kdN e = true) (ls : jL) (st : List Value) (S : jS) : jone T none kt cl (fun v S => some (v, S)) e ls st S = jone T none kt cl rtI e ls st S := by
  obtain ⟨pc, ins, len, aux, val⟩ := e
  cases ins
  case ireturn => simp only [jone]; repeat' split
                  all_goals rfl
  all_goals first | rfl | (exact absurd (show false = true from h) (by decide))
theorem jone_lng (T : jT) (kt : Nat → jL → List Value → jS → jO) (cl : Nat → List Value → Nat → jL → List Value → jS → jO) (e : jE) (h : kdG e = true) (ls : jL) (st : List Value) (S : jS) : jone T none kt cl (fun v S => some (v, S)) e ls st S = jone T none kt cl rtL e ls st S := by
  obtain ⟨pc, ins, len, aux, val⟩ := e
  cases ins
  case lreturn => simp only [jone]; repeat' split
                  all_goals rfl
  all_goals first | rfl | (exact absurd (show false = true from h) (by decide))
theorem run_int {T : jT} {M : jM} {k : Nat} (hk : (M k).1.all kdN = true) : ∀ (n d pc : Nat) (ls : jL) (st : List Value) (S : jS) (v : Option Value) (S' : jS), jrun T M n d k pc ls st S = some (v, S') → ∃ x, v = some (.int x) := by
  intro n
  induction n with
  | zero => intro d pc ls st S v S' h; exact absurd h (by simp [jrun])
  | succ n ih =>
    intro d pc ls st S v S' h
    rw [jrun] at h
    cases hz : j_at (M k).1 pc with
    | none => rw [hz] at h; exact absurd h (by simp)
    | some e =>
      rw [hz] at h
      have he : kdN e = true := List.all_eq_true.mp hk e (j_at_mem hz).1
      dsimp only at h
      rw [jone_int _ _ _ _ he] at h
      revert h
      refine jone_rel (fun x _ : jO => x = some (v, S') → ∃ x, v = some (.int x)) T (f2 := none) (k2 := fun _ _ _ _ => none) (c2 := fun _ _ _ _ _ _ => none) (r2 := fun _ _ => none) (fun q => by cases q) (fun pc ls st S1 _ q => ih d pc ls st S1 v S' q) ?_ ?_ e ls st
      · intro k' as pc' ls' st' q
        cases d with
        | zero => exact absurd q (by simp)
        | succ d' =>
          dsimp only at q
          cases hq : cond (Nat.ble (j_wd as) (M k').2) (jrun T M n d' k' 0 (j_ent (M k').2 as) [] S) none with
          | none => rw [hq] at q; exact absurd q (by simp)
          | some r => rw [hq] at q; exact ih _ _ _ _ _ _ _ q
      · intro w q
        unfold rtI at q
        split at q
        · cases q; exact ⟨_, rfl⟩
        · cases q
theorem run_lng {T : jT} {M : jM} {k : Nat} (hk : (M k).1.all kdG = true) : ∀ (n d pc : Nat) (ls : jL) (st : List Value) (S : jS) (v : Option Value) (S' : jS), jrun T M n d k pc ls st S = some (v, S') → ∃ x, v = some (.long x) := by
  intro n
  induction n with
  | zero => intro d pc ls st S v S' h; exact absurd h (by simp [jrun])
  | succ n ih =>
    intro d pc ls st S v S' h
    rw [jrun] at h
    cases hz : j_at (M k).1 pc with
    | none => rw [hz] at h; exact absurd h (by simp)
    | some e =>
      rw [hz] at h
      have he : kdG e = true := List.all_eq_true.mp hk e (j_at_mem hz).1
      dsimp only at h
      rw [jone_lng _ _ _ _ he] at h
      revert h
      refine jone_rel (fun x _ : jO => x = some (v, S') → ∃ x, v = some (.long x)) T (f2 := none) (k2 := fun _ _ _ _ => none) (c2 := fun _ _ _ _ _ _ => none) (r2 := fun _ _ => none) (fun q => by cases q) (fun pc ls st S1 _ q => ih d pc ls st S1 v S' q) ?_ ?_ e ls st
      · intro k' as pc' ls' st' q
        cases d with
        | zero => exact absurd q (by simp)
        | succ d' =>
          dsimp only at q
          cases hq : cond (Nat.ble (j_wd as) (M k').2) (jrun T M n d' k' 0 (j_ent (M k').2 as) [] S) none with
          | none => rw [hq] at q; exact absurd q (by simp)
          | some r => rw [hq] at q; exact ih _ _ _ _ _ _ _ q
      · intro w q
        unfold rtL at q
        split at q
        · cases q; exact ⟨_, rfl⟩
        · cases q
theorem jv_int {d k pc : Nat} {ls : jL} {st : List Value} {S S' : jS} {v : Value} (hk : (jMM k).1.all kdN = true) (h : jv d k pc ls st S = some (some v, S')) : ∃ x, v = .int x := by
  obtain ⟨n, hn⟩ := jev_iff.mp h
  obtain ⟨x, hx⟩ := run_int hk n _ _ _ _ _ _ _ hn
  exact ⟨x, by cases hx; rfl⟩
theorem jv_lng {d k pc : Nat} {ls : jL} {st : List Value} {S S' : jS} {v : Value} (hk : (jMM k).1.all kdG = true) (h : jv d k pc ls st S = some (some v, S')) : ∃ x, v = .long x := by
  obtain ⟨n, hn⟩ := jev_iff.mp h
  obtain ⟨x, hx⟩ := run_lng hk n _ _ _ _ _ _ _ hn
  exact ⟨x, by cases hx; rfl⟩
theorem kinds_all : ∀ q ∈ jArms, (if q.2.2.2 = true then (jMM q.1).1.all kdG else (jMM q.1).1.all kdN) = true := by decide +kernel
end SECN
