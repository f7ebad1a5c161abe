/-! RULES: nodes of both programs that mean the same -/
section PARA
/-- which links of a chain go with which operators -/
def opC (kd : Nat) (v op : Int32) : Prop := (kd = 7 ∧ ((v = 43 ∧ op = 12) ∨ (v = 45 ∧ op = 13) ∨ (v = 42 ∧ op = 14) ∨ (v = 47 ∧ op = 15))) ∨ (kd = 12 ∧ op = 20) ∨ (kd = 13 ∧ op = 21)
/-- a chain of links from n to last beside the left spine of k -/
def chL (C R : Nat → Nat → Int32) (kd : Nat) (sub : Nat → Nat → Nat → Prop) : Nat → Nat → Nat → Nat → Nat → Prop
  | 0, w, n, last, k => last = n ∧ n < 1201 ∧ k < 1400 ∧ C 0 n = nI kd ∧ opC kd (C 4 n) (R 0 k) ∧ ∃ w' n1 k1 n2 k2, w' < w ∧ C 1 n = nI n1 ∧ R 1 k = nI k1 ∧ sub w' n1 k1 ∧ C 2 n = nI n2 ∧ R 2 k = nI k2 ∧ sub w' n2 k2
  | j + 1, w, n, last, k => last < 1201 ∧ k < 1400 ∧ C 0 last = nI kd ∧ opC kd (C 4 last) (R 0 k) ∧ ∃ w' l' k' n2 k2, w' < w ∧ chL C R kd sub j w' n l' k' ∧ C 3 l' = nI last ∧ R 1 k = nI k' ∧ C 2 last = nI n2 ∧ R 2 k = nI k2 ∧ sub w' n2 k2
/-- one node that means a number; sub: its parts -/
def relN (C R : Nat → Nat → Int32) (V : Nat → Int64) (nl nt lam : Nat) (sub : Bool → Nat → Nat → (Nat → Nat) → Nat → Nat → Prop) (w s : Nat) (rho : Nat → Nat) (n k : Nat) : Prop :=
  (C 0 n = 0 ∧ R 0 k = 1 ∧ ∃ v : Nat, v < 1000000000 ∧ C 4 n = nI v ∧ V k = lgN v) ∨
  (C 0 n = 1 ∧ R 0 k = 2 ∧ ∃ i, i < s ∧ C 4 n = nI i ∧ R 1 k = nI (rho i) ∧ rho i < 1400) ∨
  (C 0 n = 2 ∧ R 0 k = 3 ∧ ∃ i, i < nl ∧ C 4 n = nI i ∧ R 1 k = nI i ∧ lam ≤ w) ∨
  (C 0 n = 3 ∧ R 0 k = 4 ∧ ∃ i n1 k1, i < nt ∧ C 4 n = nI i ∧ R 1 k = nI i ∧ C 1 n = nI n1 ∧ R 2 k = nI k1 ∧ sub true w s rho n1 k1) ∨
  (C 0 n = 4 ∧ R 0 k = 5 ∧ ∃ i, i < 13 ∧ C 4 n = nI i ∧ R 1 k = nI i) ∨
  (C 0 n = 5 ∧ R 0 k = 6 ∧ ∃ i n1 k1, i < 11 ∧ C 4 n = nI (13 + i) ∧ R 1 k = nI i ∧ C 1 n = nI n1 ∧ R 2 k = nI k1 ∧ sub true w s rho n1 k1) ∨
  (C 0 n = 6 ∧ R 0 k = 11 ∧ ∃ n1 k1, C 1 n = nI n1 ∧ R 1 k = nI k1 ∧ sub true w s rho n1 k1) ∨
  (C 0 n = 8 ∧ R 0 k = 7 ∧ ∃ n1 k1 n2 k2 n3 k3, C 1 n = nI n1 ∧ R 1 k = nI k1 ∧ sub false w s rho n1 k1 ∧ C 2 n = nI n2 ∧ R 2 k = nI k2 ∧ sub true w s rho n2 k2 ∧ C 3 n = nI n3 ∧ R 3 k = nI k3 ∧ sub true w s rho n3 k3) ∨
  (∃ i n1 k1 n2 k2 n3 k3 w', i < 3 ∧ C 0 n = nI (9 + i) ∧ R 0 k = nI (8 + i) ∧ C 4 n = nI s ∧ s < 24 ∧ w' < w ∧ C 1 n = nI n1 ∧ R 1 k = nI k1 ∧ sub true w' s rho n1 k1 ∧ C 2 n = nI n2 ∧ R 2 k = nI k2 ∧ sub true w' s rho n2 k2 ∧ C 3 n = nI n3 ∧ R 3 k = nI k3 ∧ sub true w' (s + 1) (upN rho s k) n3 k3 ∧ ∀ j, j < s → rho j ≠ k)
/-- which comparisons go together -/
def opQ (v op : Int32) : Prop := (v = 61 ∧ op = 23) ∨ (v = 35 ∧ op = 24) ∨ (v = 60 ∧ op = 25) ∨ (v = 62 ∧ op = 26) ∨ (v = 108 ∧ op = 27) ∨ (v = 103 ∧ op = 28)
def relB (C R : Nat → Nat → Int32) (sub : Bool → Nat → Nat → (Nat → Nat) → Nat → Nat → Prop) (w s : Nat) (rho : Nat → Nat) (n k : Nat) : Prop :=
  (C 0 n = 14 ∧ R 0 k = 22 ∧ ∃ n1 k1, C 1 n = nI n1 ∧ R 1 k = nI k1 ∧ sub false w s rho n1 k1) ∨
  (C 0 n = 15 ∧ opQ (C 4 n) (R 0 k) ∧ ∃ n1 k1 n2 k2, C 1 n = nI n1 ∧ R 1 k = nI k1 ∧ sub true w s rho n1 k1 ∧ C 2 n = nI n2 ∧ R 2 k = nI k2 ∧ sub true w s rho n2 k2)
def kdC (b : Bool) (kd : Nat) : Prop := (b = true ∧ kd = 7) ∨ (b = false ∧ (kd = 12 ∨ kd = 13))
/-- the node n of one program and the node k of the other mean the same: a number (b) or a condition -/
def rel (C R : Nat → Nat → Int32) (V : Nat → Int64) (nl nt lam : Nat) : Nat → Bool → Nat → Nat → (Nat → Nat) → Nat → Nat → Prop
  | 0, _, _, _, _, _, _ => False
  | h + 1, b, w, s, rho, n, k => n < 1201 ∧ k < 1400 ∧ ((∃ kd j last, kdC b kd ∧ chL C R kd (fun w' n' k' => rel C R V nl nt lam h b w' s rho n' k') j w n last k ∧ C 3 last = -1) ∨ (∃ w', w' < w ∧ ((b = true ∧ relN C R V nl nt lam (fun b' w2 s' r' n' k' => rel C R V nl nt lam h b' w2 s' r' n' k') w' s rho n k) ∨ (b = false ∧ relB C R (fun b' w2 s' r' n' k' => rel C R V nl nt lam h b' w2 s' r' n' k') w' s rho n k))))
variable {C R : Nat → Nat → Int32} {V : Nat → Int64} {nl nt lam : Nat}
theorem chL_mono {kd : Nat} {sub sub' : Nat → Nat → Nat → Prop} (hs : ∀ w n k, sub w n k → sub' w n k) : ∀ (j : Nat) (w w2 n last k : Nat), w ≤ w2 → chL C R kd sub j w n last k → chL C R kd sub' j w2 n last k := by
  intro j
  induction j with
  | zero =>
    intro w w2 n last k hw ⟨a1, a2, a3, a4, a5, w', n1, k1, n2, k2, b1, b2, b3, b4, b5, b6, b7⟩
    exact ⟨a1, a2, a3, a4, a5, w', n1, k1, n2, k2, by omega, b2, b3, hs _ _ _ b4, b5, b6, hs _ _ _ b7⟩
  | succ j ih =>
    intro w w2 n last k hw ⟨a1, a2, a3, a4, w', l', k', n2, k2, b1, b2, b3, b4, b5, b6, b7⟩
    exact ⟨a1, a2, a3, a4, w', l', k', n2, k2, by omega, ih w' w' n l' k' (Nat.le_refl _) b2, b3, b4, b5, b6, hs _ _ _ b7⟩
theorem relN_mono {sub sub' : Bool → Nat → Nat → (Nat → Nat) → Nat → Nat → Prop} (hs : ∀ b w s r n k, sub b w s r n k → sub' b w s r n k) {w s : Nat} {rho : Nat → Nat} {n k : Nat} (h : relN C R V nl nt lam sub w s rho n k) : relN C R V nl nt lam sub' w s rho n k := by
  rcases h with h | h | h | ⟨a, b, i, n1, k1, c, d, e, f, g, z⟩ | h | ⟨a, b, i, n1, k1, c, d, e, f, g, z⟩ | ⟨a, b, n1, k1, f, g, z⟩ | ⟨a, b, n1, k1, n2, k2, n3, k3, c1, c2, c3, c4, c5, c6, c7, c8, c9⟩ | ⟨i, n1, k1, n2, k2, n3, k3, w', d0, d1, d2, d3, d4, d5, c1, c2, c3, c4, c5, c6, c7, c8, c9, c10⟩
  · exact Or.inl h
  · exact Or.inr (Or.inl h)
  · exact Or.inr (Or.inr (Or.inl h))
  · exact Or.inr (Or.inr (Or.inr (Or.inl ⟨a, b, i, n1, k1, c, d, e, f, g, hs _ _ _ _ _ _ z⟩)))
  · exact Or.inr (Or.inr (Or.inr (Or.inr (Or.inl h))))
  · exact Or.inr (Or.inr (Or.inr (Or.inr (Or.inr (Or.inl ⟨a, b, i, n1, k1, c, d, e, f, g, hs _ _ _ _ _ _ z⟩)))))
  · exact Or.inr (Or.inr (Or.inr (Or.inr (Or.inr (Or.inr (Or.inl ⟨a, b, n1, k1, f, g, hs _ _ _ _ _ _ z⟩))))))
  · exact Or.inr (Or.inr (Or.inr (Or.inr (Or.inr (Or.inr (Or.inr (Or.inl ⟨a, b, n1, k1, n2, k2, n3, k3, c1, c2, hs _ _ _ _ _ _ c3, c4, c5, hs _ _ _ _ _ _ c6, c7, c8, hs _ _ _ _ _ _ c9⟩)))))))
  · exact Or.inr (Or.inr (Or.inr (Or.inr (Or.inr (Or.inr (Or.inr (Or.inr ⟨i, n1, k1, n2, k2, n3, k3, w', d0, d1, d2, d3, d4, d5, c1, c2, hs _ _ _ _ _ _ c3, c4, c5, hs _ _ _ _ _ _ c6, c7, c8, hs _ _ _ _ _ _ c9, c10⟩)))))))
theorem relB_mono {sub sub' : Bool → Nat → Nat → (Nat → Nat) → Nat → Nat → Prop} (hs : ∀ b w s r n k, sub b w s r n k → sub' b w s r n k) {w s : Nat} {rho : Nat → Nat} {n k : Nat} (h : relB C R sub w s rho n k) : relB C R sub' w s rho n k := by
  rcases h with ⟨a, b, n1, k1, f, g, z⟩ | ⟨a, b, n1, k1, n2, k2, c1, c2, c3, c4, c5, c6⟩
  · exact Or.inl ⟨a, b, n1, k1, f, g, hs _ _ _ _ _ _ z⟩
  · exact Or.inr ⟨a, b, n1, k1, n2, k2, c1, c2, hs _ _ _ _ _ _ c3, c4, c5, hs _ _ _ _ _ _ c6⟩
theorem rel_step : ∀ (h : Nat) (b : Bool) (w s : Nat) (rho : Nat → Nat) (n k : Nat), rel C R V nl nt lam h b w s rho n k → rel C R V nl nt lam (h + 1) b w s rho n k := by
  intro h
  induction h with
  | zero => intro b w s rho n k z; exact z.elim
  | succ h ih =>
    intro b w s rho n k ⟨a1, a2, z⟩
    refine ⟨a1, a2, ?_⟩
    rcases z with ⟨kd, j, last, c1, c2, c3⟩ | ⟨w', c1, ⟨c2, c3⟩ | ⟨c2, c3⟩⟩
    · exact Or.inl ⟨kd, j, last, c1, chL_mono (fun w n k q => ih b w s rho n k q) j w w n last k (Nat.le_refl _) c2, c3⟩
    · exact Or.inr ⟨w', c1, Or.inl ⟨c2, relN_mono (fun b w s r n k q => ih b w s r n k q) c3⟩⟩
    · exact Or.inr ⟨w', c1, Or.inr ⟨c2, relB_mono (fun b w s r n k q => ih b w s r n k q) c3⟩⟩
theorem rel_mono {h h2 : Nat} {b : Bool} {w w2 s : Nat} {rho : Nat → Nat} {n k : Nat} (hh : h ≤ h2) (hw : w ≤ w2) (z : rel C R V nl nt lam h b w s rho n k) : rel C R V nl nt lam h2 b w2 s rho n k := by
  have h1 : ∀ e, rel C R V nl nt lam (h + e) b w s rho n k := by
    intro e
    induction e with
    | zero => exact z
    | succ e ih => exact rel_step _ _ _ _ _ _ _ ih
  have h2' := h1 (h2 - h)
  rw [show h + (h2 - h) = h2 by omega] at h2'
  cases h2 with
  | zero => exact h2'.elim
  | succ h2 =>
    obtain ⟨a1, a2, z⟩ := h2'
    refine ⟨a1, a2, ?_⟩
    rcases z with ⟨kd, j, last, c1, c2, c3⟩ | ⟨w', c1, c2⟩
    · exact Or.inl ⟨kd, j, last, c1, chL_mono (fun _ _ _ q => q) j w w2 n last k hw c2, c3⟩
    · exact Or.inr ⟨w', by omega, c2⟩
/-- what is known of a node just read: whatever comes behind the nodes from nc to nc', from nr to nr' -/
def pst (g : Nat) (I J : Nat → Nat → Int32) (L' : Nat → Nat → Int64) (nl nt lam h : Nat) (b : Bool) (w s : Nat) (rho : Nat → Nat) (nc nc' nr nr' n k : Nat) : Prop := ∀ (C R : Nat → Nat → Int32) (V : Nat → Int64), (∀ c, c < 5 → ∀ i, nc ≤ i → i < nc' → C c i = I (g + 1 + c) i) → (∀ c, c < 4 → ∀ i, nr ≤ i → i < nr' → R c i = J (21 + c) i) → (∀ i, nr ≤ i → i < nr' → V i = L' 25 i) → rel C R V nl nt lam h b w s rho n k
theorem pst.frame {g : Nat} {I J I2 J2 : Nat → Nat → Int32} {L' L2 : Nat → Nat → Int64} {nl nt lam h h2 : Nat} {b : Bool} {w w2 s : Nat} {rho : Nat → Nat} {nc nc' nr nr' mc mc' mr mr' n k : Nat} (z : pst g I J L' nl nt lam h b w s rho nc nc' nr nr' n k) (h1 : h ≤ h2) (h3 : w ≤ w2) (e1 : mc ≤ nc) (e2 : nc' ≤ mc') (e3 : mr ≤ nr) (e4 : nr' ≤ mr') (f1 : ∀ c, c < 5 → ∀ i, nc ≤ i → i < nc' → I2 (g + 1 + c) i = I (g + 1 + c) i) (f2 : ∀ c, c < 4 → ∀ i, nr ≤ i → i < nr' → J2 (21 + c) i = J (21 + c) i) (f3 : ∀ i, nr ≤ i → i < nr' → L2 25 i = L' 25 i) : pst g I2 J2 L2 nl nt lam h2 b w2 s rho mc mc' mr mr' n k := by
  intro C R V a1 a2 a3
  exact rel_mono h1 h3 (z C R V (fun c hc i i1 i2 => (a1 c hc i (by omega) (by omega)).trans (f1 c hc i i1 i2)) (fun c hc i i1 i2 => (a2 c hc i (by omega) (by omega)).trans (f2 c hc i i1 i2)) (fun i i1 i2 => (a3 i (by omega) (by omega)).trans (f3 i i1 i2)))
end PARA
