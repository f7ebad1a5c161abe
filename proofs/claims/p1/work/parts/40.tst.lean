/-! CONCRETE RUNS BY THE KERNEL -/
def kI (o : jO) (z : Int32) (sh : List (Nat × Nat)) : Bool := match o with
  | some (some (.int x), S) => decide (x = z) && decide (S.1 = sh)
  | _ => false
def kL (o : jO) (z : Int64) (sh : List (Nat × Nat)) : Bool := match o with
  | some (some (.long x), S) => decide (x = z) && decide (S.1 = sh)
  | _ => false
theorem kI_some {o : jO} {z : Int32} {sh : List (Nat × Nat)} (h : kI o z sh = true) : ∃ S', o = some (some (.int z), S') ∧ S'.1 = sh := by
  unfold kI at h
  split at h
  · next x S =>
    rw [Bool.and_eq_true, decide_eq_true_eq, decide_eq_true_eq] at h
    exact ⟨S, by rw [h.1], h.2⟩
  · cases h
theorem kL_some {o : jO} {z : Int64} {sh : List (Nat × Nat)} (h : kL o z sh = true) : ∃ S', o = some (some (.long z), S') ∧ S'.1 = sh := by
  unfold kL at h
  split at h
  · next x S =>
    rw [Bool.and_eq_true, decide_eq_true_eq, decide_eq_true_eq] at h
    exact ⟨S, by rw [h.1], h.2⟩
  · cases h
/-- the call of k ends with v, and no cell is new -/
def jEnds (k : Nat) (as : List Value) (S : jS) (v : Value) : Prop := ∃ S', jCall k as S v S'
theorem kI_ends {n k : Nat} {as : List Value} {S : jS} {z : Int32} (hf : Nat.ble (j_wd (.ref 0 :: as)) (jMM k).2 = true) (h : kI (jrun jTT jMM n 1900 k 0 (j_ent (jMM k).2 (.ref 0 :: as)) [] S) z S.1 = true) : jEnds k as S (.int z) := by
  obtain ⟨S', h1, h2⟩ := kI_some h
  exact ⟨S', hf, jev_iff.mpr ⟨n, h1⟩, h2⟩
theorem kL_ends {n k : Nat} {as : List Value} {S : jS} {z : Int64} (hf : Nat.ble (j_wd (.ref 0 :: as)) (jMM k).2 = true) (h : kL (jrun jTT jMM n 1900 k 0 (j_ent (jMM k).2 (.ref 0 :: as)) [] S) z S.1 = true) : jEnds k as S (.long z) := by
  obtain ⟨S', h1, h2⟩ := kL_some h
  exact ⟨S', hf, jev_iff.mpr ⟨n, h1⟩, h2⟩
def SC0 : jS := (shC, i3f, l3f, pC)
def SR0 : jS := (shR, rI0, fun _ _ => 0, pR)
theorem kr_bars : jEnds 342 [] SR0 (.int 0) := kI_ends (n := 9000) (by decide +kernel) (by decide +kernel)
theorem kc_bars : jEnds 206 [] SC0 (.int 0) := kI_ends (n := 9000) (by decide +kernel) (by decide +kernel)
