/-! RUNS BY THE KERNEL, with the library's fills at once; the first call's concrete ones -/
def orF (k : Nat) (as : List Value) (S : jS) : Option (Option Value × jS) := match as with
  | [.ref a, .int v] => cond (Nat.beq k 364) (match j_sh S.1 a with
      | some (100, n) => cond (Nat.blt n 2147483648) (some (none, (S.1, va_up S.2.1 a (j_fill (S.2.1 a) (fun _ => v) n), S.2.2.1, S.2.2.2))) none
      | _ => none) (cond (Nat.beq k 365) (match j_sh S.1 a with
      | some (101, n) => cond (Nat.blt n 2147483648) (some (none, (S.1, va_up S.2.1 a (j_fill (S.2.1 a) (fun _ => vp_nar .byte v) n), S.2.2.1, S.2.2.2))) none
      | _ => none) none)
  | [.ref a, .long v] => cond (Nat.beq k 363) (match j_sh S.1 a with
      | some (103, n) => cond (Nat.blt n 2147483648) (some (none, (S.1, S.2.1, va_up S.2.2.1 a (j_fillL (S.2.2.1 a) (fun _ => v) n), S.2.2.2))) none
      | _ => none) none
  | _ => none
theorem orF_ok {d k : Nat} {as : List Value} {S : jS} {q : Option Value × jS} (h : orF k as S = some q) : Nat.ble (j_wd as) (jMM k).2 = true ∧ jev jTT jMM d k 0 (j_ent (jMM k).2 as) [] S = some q := by
  unfold orF at h
  split at h
  · next a v =>
    cases h4 : Nat.beq k 364 with
    | true =>
      rw [h4] at h
      dsimp only [cond] at h
      have hk : k = 364 := Nat.eq_of_beq_eq_true h4
      subst hk
      split at h
      · next n hs =>
        cases hb : Nat.blt n 2147483648 with
        | true =>
          rw [hb] at h
          dsimp only [cond] at h
          cases h
          exact ⟨rfl, fill_int hs (by have := Nat.le_of_ble_eq_true hb; omega) v none none S.2.1 S.2.2.1 S.2.2.2⟩
        | false =>
          rw [hb] at h
          cases h
      · cases h
    | false =>
      rw [h4] at h
      dsimp only [cond] at h
      cases h5 : Nat.beq k 365 with
      | true =>
        rw [h5] at h
        dsimp only [cond] at h
        have hk : k = 365 := Nat.eq_of_beq_eq_true h5
        subst hk
        split at h
        · next n hs =>
          cases hb : Nat.blt n 2147483648 with
          | true =>
            rw [hb] at h
            dsimp only [cond] at h
            cases h
            exact ⟨rfl, fill_byte hs (by have := Nat.le_of_ble_eq_true hb; omega) v none none S.2.1 S.2.2.1 S.2.2.2⟩
          | false =>
            rw [hb] at h
            cases h
        · cases h
      | false =>
        rw [h5] at h
        cases h
  · next a v =>
    cases h4 : Nat.beq k 363 with
    | true =>
      rw [h4] at h
      dsimp only [cond] at h
      have hk : k = 363 := Nat.eq_of_beq_eq_true h4
      subst hk
      split at h
      · next n hs =>
        cases hb : Nat.blt n 2147483648 with
        | true =>
          rw [hb] at h
          dsimp only [cond] at h
          cases h
          exact ⟨rfl, fill_long hs (by have := Nat.le_of_ble_eq_true hb; omega) v none none S.2.1 S.2.2.1 S.2.2.2⟩
        | false =>
          rw [hb] at h
          cases h
      · cases h
    | false =>
      rw [h4] at h
      cases h
  · cases h
def jrunO : Nat → Nat → Nat → Nat → jL → List Value → jS → jO
  | 0, _, _, _, _, _, _ => none
  | n + 1, d, k, pc, ls, st, S => match j_at (jMM k).1 pc with
    | none => none
    | some e => jone jTT none (jrunO n d k) (fun k' as pc' ls' r S' => match d with
        | 0 => none
        | d' + 1 => match orF k' as S' with
          | some q => jrunO n d k pc' ls' (q.1.toList ++ r) q.2
          | none => match cond (Nat.ble (j_wd as) (jMM k').2) (jrunO n d' k' 0 (j_ent (jMM k').2 as) [] S') none with
            | none => none
            | some q => jrunO n d k pc' ls' (q.1.toList ++ r) q.2) (fun v S' => some (v, S')) e ls st S
theorem jrunO_jev : ∀ (n d k pc : Nat) (ls : jL) (st : List Value) (S : jS) (r : Option Value × jS), jrunO n d k pc ls st S = some r → jev jTT jMM d k pc ls st S = some r := by
  intro n
  induction n with
  | zero => intro d k pc ls st S r h; exact absurd h (by simp [jrunO])
  | succ n ih =>
    intro d k pc ls st S r h
    rw [jrunO] at h
    cases he : j_at (jMM k).1 pc with
    | none => rw [he] at h; exact absurd h (by simp)
    | some e =>
      rw [he] at h
      rw [jev_eq he]
      revert h
      refine jone_rel (fun x y : jO => x = some r → y = some r) jTT (fun q => q) (fun pc ls st S' _ => ih d k pc ls st S' r) ?_ (fun v q => q) e ls st
      intro k' as pc' ls' st' h
      cases d with
      | zero => exact absurd h (by simp)
      | succ d' =>
        dsimp only at h
        cases ho : orF k' as S with
        | some q =>
          rw [ho] at h
          obtain ⟨hz, hq⟩ := orF_ok (d := d') ho
          simp only [jgo, hz, cond, hq]
          exact ih (d' + 1) k pc' ls' _ _ r h
        | none =>
          rw [ho] at h
          dsimp only at h
          cases hz : Nat.ble (j_wd as) (jMM k').2 with
          | false => rw [hz] at h; exact absurd h (by simp)
          | true =>
            rw [hz] at h
            dsimp only [cond] at h
            cases hq : jrunO n d' k' 0 (j_ent (jMM k').2 as) [] S with
            | none => rw [hq] at h; exact absurd h (by simp)
            | some q =>
              rw [hq] at h
              simp only [jgo, hz, cond, ih d' k' 0 _ [] S q hq]
              exact ih (d' + 1) k pc' ls' _ _ r h
theorem oI_ends {n k : Nat} {as : List Value} {S : jS} {z : Int32} (hf : Nat.ble (j_wd (.ref 0 :: as)) (jMM k).2 = true) (h : kI (jrunO n 1900 k 0 (j_ent (jMM k).2 (.ref 0 :: as)) [] S) z S.1 = true) : jEnds k as S (.int z) := by
  obtain ⟨S', h1, h2⟩ := kI_some h
  exact ⟨S', hf, jrunO_jev _ _ _ _ _ _ _ _ h1, h2⟩
theorem kq_write : ∀ j, j < 3 → (kI (jrun jTT jMM 300 1900 174 0 (j_ent (jMM 174).2 [.ref 0, .int (nI j)]) [] SC0) (-2) shC && kI (jrun jTT jMM 300 1900 228 0 (j_ent (jMM 228).2 [.ref 0, .int (nI j)]) [] SR0) (-2) shR) = true := by decide +kernel
theorem kp_write (j : Nat) (hj : j < 3) : ∃ v : Int32, jEnds 174 [.int (nI j)] SC0 (.int v) ∧ jEnds 228 [.int (nI j)] SR0 (.int v) := ⟨-2, kI_ends rfl (Bool.and_eq_true_iff.mp (kq_write j hj)).1, kI_ends rfl (Bool.and_eq_true_iff.mp (kq_write j hj)).2⟩
theorem kq_commit : ∀ j, j < 3 → (kI (jrun jTT jMM 300 1900 176 0 (j_ent (jMM 176).2 [.ref 0, .int (nI j)]) [] SC0) (-2) shC && kI (jrun jTT jMM 300 1900 229 0 (j_ent (jMM 229).2 [.ref 0, .int (nI j)]) [] SR0) (-2) shR) = true := by decide +kernel
theorem kp_commit (j : Nat) (hj : j < 3) : ∃ v : Int32, jEnds 176 [.int (nI j)] SC0 (.int v) ∧ jEnds 229 [.int (nI j)] SR0 (.int v) := ⟨-2, kI_ends rfl (Bool.and_eq_true_iff.mp (kq_commit j hj)).1, kI_ends rfl (Bool.and_eq_true_iff.mp (kq_commit j hj)).2⟩
theorem kq_leave : ∀ j, j < 3 → (kI (jrun jTT jMM 300 1900 177 0 (j_ent (jMM 177).2 [.ref 0, .int (nI j)]) [] SC0) (-2) shC && kI (jrun jTT jMM 300 1900 233 0 (j_ent (jMM 233).2 [.ref 0, .int (nI j)]) [] SR0) (-2) shR) = true := by decide +kernel
theorem kp_leave (j : Nat) (hj : j < 3) : ∃ v : Int32, jEnds 177 [.int (nI j)] SC0 (.int v) ∧ jEnds 233 [.int (nI j)] SR0 (.int v) := ⟨-2, kI_ends rfl (Bool.and_eq_true_iff.mp (kq_leave j hj)).1, kI_ends rfl (Bool.and_eq_true_iff.mp (kq_leave j hj)).2⟩
theorem kz_cut : ∃ v : Int32, jEnds 173 [.int 0] SC0 (.int v) ∧ jEnds 227 [.int 0] SR0 (.int v) := ⟨0, kI_ends (n := 300) rfl (by decide +kernel), kI_ends (n := 300) rfl (by decide +kernel)⟩
theorem kz_told0 : ∃ v : Int32, jEnds 183 [.int 0] SC0 (.int v) ∧ jEnds 241 [.int 0] SR0 (.int v) := ⟨0, kI_ends (n := 300) rfl (by decide +kernel), kI_ends (n := 300) rfl (by decide +kernel)⟩
theorem kz_told1 : ∃ v : Int32, jEnds 183 [.int 1] SC0 (.int v) ∧ jEnds 241 [.int 1] SR0 (.int v) := ⟨0, kI_ends (n := 300) rfl (by decide +kernel), kI_ends (n := 300) rfl (by decide +kernel)⟩
theorem kz_told2 : ∃ v : Int32, jEnds 183 [.int 2] SC0 (.int v) ∧ jEnds 241 [.int 2] SR0 (.int v) := ⟨0, kI_ends (n := 300) rfl (by decide +kernel), kI_ends (n := 300) rfl (by decide +kernel)⟩
theorem kz_told3 : ∃ v : Int32, jEnds 183 [.int 3] SC0 (.int v) ∧ jEnds 241 [.int 3] SR0 (.int v) := ⟨0, kI_ends (n := 300) rfl (by decide +kernel), kI_ends (n := 300) rfl (by decide +kernel)⟩
theorem kz_told4 : ∃ v : Int32, jEnds 183 [.int 4] SC0 (.int v) ∧ jEnds 241 [.int 4] SR0 (.int v) := ⟨0, kI_ends (n := 300) rfl (by decide +kernel), kI_ends (n := 300) rfl (by decide +kernel)⟩
theorem kz_told5 : ∃ v : Int32, jEnds 183 [.int 5] SC0 (.int v) ∧ jEnds 241 [.int 5] SR0 (.int v) := ⟨0, kI_ends (n := 300) rfl (by decide +kernel), kI_ends (n := 300) rfl (by decide +kernel)⟩
theorem kz_told6 : ∃ v : Int32, jEnds 183 [.int 6] SC0 (.int v) ∧ jEnds 241 [.int 6] SR0 (.int v) := ⟨-2, kI_ends (n := 300) rfl (by decide +kernel), kI_ends (n := 300) rfl (by decide +kernel)⟩
