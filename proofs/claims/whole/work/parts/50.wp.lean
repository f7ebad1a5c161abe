/-! RUNS THAT COME TO AN END: one, and two side by side; conditions over numbers -/
def jW (x : jO) (Q : Option Value → jS → Prop) : Prop := ∃ v S, x = some (v, S) ∧ Q v S
theorem jW_some {v : Option Value} {S : jS} {Q : Option Value → jS → Prop} (h : Q v S) : jW (some (v, S)) Q := ⟨v, S, rfl, h⟩
theorem jW_mono {x : jO} {Q Q' : Option Value → jS → Prop} (h : jW x Q) (hq : ∀ v S, Q v S → Q' v S) : jW x Q' := by
  obtain ⟨v, S, h1, h2⟩ := h
  exact ⟨v, S, h1, hq v S h2⟩
theorem jW_go {d k : Nat} {as : List Value} {S : jS} {K : Option Value → jS → jO} {Q Q1 : Option Value → jS → Prop} (hf : Nat.ble (j_wd as) (jMM k).2 = true) (h : jW (jv d k 0 (j_ent (jMM k).2 as) [] S) Q1) (hk : ∀ v S', Q1 v S' → jW (K v S') Q) : jW (jgo jTT jMM (d + 1) k as S K) Q := by
  obtain ⟨v, S', h1, h2⟩ := h
  rw [jgo_some hf h1]
  exact hk v S' h2
def jW2 (x y : jO) (Q : Option Value → jS → Option Value → jS → Prop) : Prop := ∃ v S w T, x = some (v, S) ∧ y = some (w, T) ∧ Q v S w T
theorem jW2_some {v w : Option Value} {S T : jS} {Q : Option Value → jS → Option Value → jS → Prop} (h : Q v S w T) : jW2 (some (v, S)) (some (w, T)) Q := ⟨v, S, w, T, rfl, rfl, h⟩
theorem jW2_mono {x y : jO} {Q Q' : Option Value → jS → Option Value → jS → Prop} (h : jW2 x y Q) (hq : ∀ v S w T, Q v S w T → Q' v S w T) : jW2 x y Q' := by
  obtain ⟨v, S, w, T, h1, h2, h3⟩ := h
  exact ⟨v, S, w, T, h1, h2, hq v S w T h3⟩
theorem jW2_of {x y : jO} {Q : Option Value → jS → Option Value → jS → Prop} {Q1 Q2 : Option Value → jS → Prop} (h1 : jW x Q1) (h2 : jW y Q2) (h : ∀ v S w T, Q1 v S → Q2 w T → Q v S w T) : jW2 x y Q := by
  obtain ⟨v, S, a1, a2⟩ := h1
  obtain ⟨w, T, b1, b2⟩ := h2
  exact ⟨v, S, w, T, a1, b1, h v S w T a2 b2⟩
theorem jW2_go {d e k k' : Nat} {as bs : List Value} {S T : jS} {K K' : Option Value → jS → jO} {Q Q1 : Option Value → jS → Option Value → jS → Prop} (hf : Nat.ble (j_wd as) (jMM k).2 = true) (hf' : Nat.ble (j_wd bs) (jMM k').2 = true) (h : jW2 (jv d k 0 (j_ent (jMM k).2 as) [] S) (jv e k' 0 (j_ent (jMM k').2 bs) [] T) Q1) (hk : ∀ v S' w T', Q1 v S' w T' → jW2 (K v S') (K' w T') Q) : jW2 (jgo jTT jMM (d + 1) k as S K) (jgo jTT jMM (e + 1) k' bs T K') Q := by
  obtain ⟨v, S', w, T', h1, h2, h3⟩ := h
  rw [jgo_some hf h1, jgo_some hf' h2]
  exact hk v S' w T' h3
/-! conditions -/
theorem q_lt (a b : Nat) (ha : a < 2 ^ 31) (hb : b < 2 ^ 31) : (nI a < nI b) = (a < b) := propext (nI_ltI ha hb)
theorem q_eq (a b : Nat) (ha : a < 2 ^ 31) (hb : b < 2 ^ 31) : (nI a = nI b) = (a = b) := propext (nI_eq ha hb)
theorem q_ltn (a n : Nat) (ha : a < 2 ^ 31) (hb : n < 2 ^ 31) : (nI a < (OfNat.ofNat n : Int32)) = (a < n) := propext (nI_ltI ha hb)
theorem q_nlt (a n : Nat) (ha : a < 2 ^ 31) (hb : n < 2 ^ 31) : ((OfNat.ofNat n : Int32) < nI a) = (n < a) := propext (nI_ltI hb ha)
theorem q_eqn (a n : Nat) (ha : a < 2 ^ 31) (hb : n < 2 ^ 31) : (nI a = (OfNat.ofNat n : Int32)) = (a = n) := propext (nI_eq ha hb)
theorem q_in (a n : Nat) (hn : n < 2 ^ 31) (h : a < n) : (j_in (nI a) n = true) = True := eq_true (j_in_nI h hn)
theorem q_cl (a : Nat) (h : a < 2 ^ 31) : (nI a).toNatClampNeg = a := nI_clamp h
theorem q_sub (a b : Nat) (h : b ≤ a) : nI a - nI b = nI (a - b) := nI_sub h
theorem q_max (a b : Nat) (ha : a < 2 ^ 31) (hb : b < 2 ^ 31) : (if nI a < nI b then nI b else nI a) = nI (if a < b then b else a) := by
  simp only [q_lt a b ha hb]
  split <;> rfl
theorem q_add (a b : Nat) : nI a + nI b = nI (a + b) := nI_add a b
theorem q_addn (a n : Nat) : nI a + (OfNat.ofNat n : Int32) = nI (a + n) := nI_add a n
theorem q_lit (n : Nat) : (OfNat.ofNat n : Int32) = nI n := rfl
theorem jW2_goL {d k : Nat} {as : List Value} {S : jS} {y : jO} {K : Option Value → jS → jO} {Q Q1 : Option Value → jS → Option Value → jS → Prop} (hf : Nat.ble (j_wd as) (jMM k).2 = true) (h : jW2 (jv d k 0 (j_ent (jMM k).2 as) [] S) y Q1) (hk : ∀ v S' w T, Q1 v S' w T → jW (K v S') (fun v' S'' => Q v' S'' w T)) : jW2 (jgo jTT jMM (d + 1) k as S K) y Q := by
  obtain ⟨v, S', w, T, h1, h2, h3⟩ := h
  rw [jgo_some hf h1]
  obtain ⟨v', S'', h4, h5⟩ := hk v S' w T h3
  exact ⟨v', S'', w, T, h4, h2, h5⟩
