/-! RULES: chains under way -/
section PARG
variable {I J : Nat → Nat → Int32} {L L' : Nat → Nat → Int64}
variable {g T : Nat} {nl nt lam h s : Nat} {b : Bool} {rho : Nat → Nat} {now nc nr now' nc' nr' : Nat} {I1 J1 I2 J2 : Nat → Nat → Int32} {L1 L1' L2' : Nat → Nat → Int64}
def chP (g : Nat) (I1 J1 : Nat → Nat → Int32) (L1' : Nat → Nat → Int64) (nl nt lam h : Nat) (b : Bool) (w s : Nat) (rho : Nat → Nat) (kd nc nc' nr nr' n k la : Nat) : Prop := ∃ j, nc ≤ la ∧ la < nc' ∧ I1 (g + 4) la = -1 ∧ ∀ (C R : Nat → Nat → Int32) (V : Nat → Int64), (∀ c, c < 5 → ∀ i, nc ≤ i → i < nc' → (c ≠ 3 ∨ i ≠ la) → C c i = I1 (g + 1 + c) i) → (∀ c, c < 4 → ∀ i, nr ≤ i → i < nr' → R c i = J1 (21 + c) i) → (∀ i, nr ≤ i → i < nr' → V i = L1' 25 i) → chL C R kd (fun w' n' k' => rel C R V nl nt lam h b w' s rho n' k') j w n la k
theorem chL_n {C R : Nat → Nat → Int32} {kd : Nat} {sub : Nat → Nat → Nat → Prop} : ∀ (j w n last k : Nat), chL C R kd sub j w n last k → n < 1201 ∧ k < 1400 := by
  intro j
  induction j with
  | zero => intro w n last k ⟨a1, a2, a3, _⟩; exact ⟨a2, a3⟩
  | succ j ih =>
    intro w n last k ⟨a1, a2, a3, a4, w', l', k', n2, k2, b1, b2, _⟩
    exact ⟨(ih w' n l' k' b2).1, a2⟩
theorem chP.done {w kd n k la : Nat} (hk : kdC b kd) (z : chP g I1 J1 L1' nl nt lam h b w s rho kd nc nc' nr nr' n k la) : pst g I1 J1 L1' nl nt lam (h + 1) b w s rho nc nc' nr nr' n k := by
  obtain ⟨j, a1, a2, a3, a4⟩ := z
  intro C R V c1 c2 c3
  have h1 := a4 C R V (fun c hc i i1 i2 _ => c1 c hc i i1 i2) c2 c3
  have h2 := chL_n _ _ _ _ _ h1
  exact ⟨h2.1, h2.2, Or.inl ⟨kd, j, la, hk, h1, (c1 3 (by decide) la a1 a2).trans a3⟩⟩
/-- the first link -/
theorem chP.first {w1 w2 w3 kd n k n2 k2 nc2 nr2 : Nat} {v op : Int32} (hr : nr2 < 1400) (hc : nc2 < 1201) (ho : opC kd v op) (z1 : pst g I1 J1 L1' nl nt lam h b w1 s rho nc nc' nr nr' n k) (z2 : pst g I2 J2 L2' nl nt lam h b w2 s rho nc' nc2 nr' nr2 n2 k2) (w13 : w1 < w3) (w23 : w2 < w3) (n1 : nc ≤ nc') (n2' : nc' ≤ nc2) (r1 : nr ≤ nr') (r2 : nr' ≤ nr2) (f1 : ∀ c, c < 5 → ∀ i, nc ≤ i → i < nc' → I2 (g + 1 + c) i = I1 (g + 1 + c) i) (f2 : ∀ c, c < 4 → ∀ i, nr ≤ i → i < nr' → J2 (21 + c) i = J1 (21 + c) i) (f3 : ∀ i, nr ≤ i → i < nr' → L2' 25 i = L1' 25 i) (x0 : Int64) : chP g (adC g I2 nc2 (nI kd) v (nI n) (nI n2) (-1)) (adR J2 nr2 op (nI k) (nI k2) 0) (j_up L2' 25 nr2 x0) nl nt lam h b w3 s rho kd nc (nc2 + 1) nr (nr2 + 1) nc2 nr2 nc2 := by
  obtain ⟨c1, d1, d2, d3, d4, d5, _⟩ := adC_at (I := I2) g nc2 (nI kd) v (nI n) (nI n2) (-1)
  obtain ⟨e1, g1, g2, g3, g4, _⟩ := adR_at (J := J2) nr2 op (nI k) (nI k2) 0
  refine ⟨0, by omega, by omega, d5, fun C R V a1 a2 a3 => ?_⟩
  have q0 := a1 0 (by decide) nc2 (by omega) (by omega) (Or.inl (by decide))
  have q1 := a1 1 (by decide) nc2 (by omega) (by omega) (Or.inl (by decide))
  have q2 := a1 2 (by decide) nc2 (by omega) (by omega) (Or.inl (by decide))
  have q4 := a1 4 (by decide) nc2 (by omega) (by omega) (Or.inl (by decide))
  have p0 := a2 0 (by decide) nr2 (by omega) (by omega)
  have p1 := a2 1 (by decide) nr2 (by omega) (by omega)
  have p2 := a2 2 (by decide) nr2 (by omega) (by omega)
  refine ⟨rfl, hc, hr, q0.trans d1, ?_, w3 - 1, n, k, n2, k2, by omega, q1.trans d3, p1.trans g2, ?_, q2.trans d4, p2.trans g3, ?_⟩
  · rw [q4, p0]; rw [show adC g I2 nc2 (nI kd) v (nI n) (nI n2) (-1) (g + 1 + 4) nc2 = v from d2, show adR J2 nr2 op (nI k) (nI k2) 0 (21 + 0) nr2 = op from g1]; exact ho
  · refine rel_mono (Nat.le_refl _) (by omega) (z1 C R V (fun c hc' i i1 i2 => ?_) (fun c hc' i i1 i2 => ?_) (fun i i1 i2 => ?_))
    · rw [a1 c hc' i i1 (by omega) (Or.inr (by omega)), c1 i (by omega) c hc', f1 c hc' i i1 i2]
    · rw [a2 c hc' i i1 (by omega), e1 i (by omega) c hc', f2 c hc' i i1 i2]
    · rw [a3 i i1 (by omega), j_up_own, if_neg (by omega), f3 i i1 i2]
  · refine rel_mono (Nat.le_refl _) (by omega) (z2 C R V (fun c hc' i i1 i2 => ?_) (fun c hc' i i1 i2 => ?_) (fun i i1 i2 => ?_))
    · rw [a1 c hc' i (by omega) (by omega) (Or.inr (by omega)), c1 i (by omega) c hc']
    · rw [a2 c hc' i (by omega) (by omega), e1 i (by omega) c hc']
    · rw [a3 i (by omega) (by omega), j_up_own, if_neg (by omega)]
/-- one more link -/
theorem chP.next {w1 w2 w3 kd n k la n2 k2 nc2 nr2 : Nat} {v op : Int32} (hr : nr2 < 1400) (hc : nc2 < 1201) (ho : opC kd v op) (z1 : chP g I1 J1 L1' nl nt lam h b w1 s rho kd nc nc' nr nr' n k la) (z2 : pst g I2 J2 L2' nl nt lam h b w2 s rho nc' nc2 nr' nr2 n2 k2) (w13 : w1 < w3) (w23 : w2 < w3) (n1 : nc ≤ nc') (n2' : nc' ≤ nc2) (r1 : nr ≤ nr') (r2 : nr' ≤ nr2) (f1 : ∀ c, c < 5 → ∀ i, nc ≤ i → i < nc' → I2 (g + 1 + c) i = I1 (g + 1 + c) i) (f2 : ∀ c, c < 4 → ∀ i, nr ≤ i → i < nr' → J2 (21 + c) i = J1 (21 + c) i) (f3 : ∀ i, nr ≤ i → i < nr' → L2' 25 i = L1' 25 i) (x0 : Int64) (y0 : Int32) : chP g (j_up (adC g I2 nc2 (nI kd) v y0 (nI n2) (-1)) (g + 4) la (nI nc2)) (adR J2 nr2 op (nI k) (nI k2) 0) (j_up L2' 25 nr2 x0) nl nt lam h b w3 s rho kd nc (nc2 + 1) nr (nr2 + 1) n nr2 nc2 := by
  obtain ⟨c1, d1, d2, d3, d4, d5, _⟩ := adC_at (I := I2) g nc2 (nI kd) v y0 (nI n2) (-1)
  obtain ⟨e1, g1, g2, g3, g4, _⟩ := adR_at (J := J2) nr2 op (nI k) (nI k2) 0
  obtain ⟨j, l1, l2, l3, l4⟩ := z1
  have jo : ∀ c i, (c ≠ 3 ∨ i ≠ la) → j_up (adC g I2 nc2 (nI kd) v y0 (nI n2) (-1)) (g + 4) la (nI nc2) (g + 1 + c) i = adC g I2 nc2 (nI kd) v y0 (nI n2) (-1) (g + 1 + c) i := fun c i q => by
    rw [j_up_app]
    by_cases z : g + 1 + c = g + 4
    · rw [if_pos z, if_neg (by omega), z]
    · rw [if_neg z]
  refine ⟨j + 1, by omega, by omega, ?_, fun C R V a1 a2 a3 => ?_⟩
  · rw [j_up_own, if_neg (by omega), d5]
  have q0 := a1 0 (by decide) nc2 (by omega) (by omega) (Or.inl (by decide))
  have q2 := a1 2 (by decide) nc2 (by omega) (by omega) (Or.inl (by decide))
  have q3 := a1 3 (by decide) la (by omega) (by omega) (Or.inr (by omega))
  have q4 := a1 4 (by decide) nc2 (by omega) (by omega) (Or.inl (by decide))
  have p0 := a2 0 (by decide) nr2 (by omega) (by omega)
  have p1 := a2 1 (by decide) nr2 (by omega) (by omega)
  have p2 := a2 2 (by decide) nr2 (by omega) (by omega)
  rw [jo _ _ (Or.inl (by decide))] at q0 q2 q4
  refine ⟨hc, hr, q0.trans d1, ?_, w3 - 1, la, k, n2, k2, by omega, ?_, ?_, p1.trans g2, q2.trans d4, p2.trans g3, ?_⟩
  · rw [q4, p0]; rw [show adC g I2 nc2 (nI kd) v y0 (nI n2) (-1) (g + 1 + 4) nc2 = v from d2, show adR J2 nr2 op (nI k) (nI k2) 0 (21 + 0) nr2 = op from g1]; exact ho
  · refine chL_mono (fun _ _ _ q => q) j w1 (w3 - 1) n la k (by omega) (l4 C R V (fun c hc' i i1 i2 q => ?_) (fun c hc' i i1 i2 => ?_) (fun i i1 i2 => ?_))
    · rw [a1 c hc' i i1 (by omega) (Or.inr (by omega)), jo c i q, c1 i (by omega) c hc', f1 c hc' i i1 i2]
    · rw [a2 c hc' i i1 (by omega), e1 i (by omega) c hc', f2 c hc' i i1 i2]
    · rw [a3 i i1 (by omega), j_up_own, if_neg (by omega), f3 i i1 i2]
  · rw [q3]; show j_up _ (g + 4) la (nI nc2) (g + 4) la = _; rw [j_up_own, if_pos rfl]
  · refine rel_mono (Nat.le_refl _) (by omega) (z2 C R V (fun c hc' i i1 i2 => ?_) (fun c hc' i i1 i2 => ?_) (fun i i1 i2 => ?_))
    · rw [a1 c hc' i (by omega) (by omega) (Or.inr (by omega)), jo c i (Or.inr (by omega)), c1 i (by omega) c hc']
    · rw [a2 c hc' i (by omega) (by omega), e1 i (by omega) c hc']
    · rw [a3 i (by omega) (by omega), j_up_own, if_neg (by omega)]
/-- the last link gets its next one -/
theorem eSt.third {la : Nat} (hg : g = 38 ∨ g = 49) (z : eSt g T s now nc nr I L J L' now' nc' nr' I1 L1 J1 L1') (hl : nc ≤ la) (x : Int32) : eSt g T s now nc nr I L J L' now' nc' nr' (j_up I1 (g + 4) la x) L1 J1 L1' := by
  obtain ⟨b1, b2, b3, b4, b5, b6, b7, b8, b9, b10, b11, b12, b13, b14, b15⟩ := z
  have r27 : j_up I1 (g + 4) la x 27 = I1 27 := j_up_cell _ (by omega) _ _
  have rg : j_up I1 (g + 4) la x g = I1 g := j_up_cell _ (by omega) _ _
  refine ⟨⟨fun c q1 q2 => by rw [j_up_cell _ (by omega)]; exact b1.1 c q1 q2, fun q q1 => by rw [rg]; exact b1.2.1 q q1, fun c q1 i q2 => ?_, fun q q1 q2 q3 q4 => by rw [r27]; exact b1.2.2.2.1 q q1 q2 q3 q4, b1.2.2.2.2.1, b1.2.2.2.2.2⟩, b2, b3, b4, b5, b6, b7, b8, by rw [r27]; exact b9, by rw [r27]; exact b10, by rw [r27]; exact b11, by rw [rg]; exact b12, b13, b14, b15⟩
  rw [j_up_app]
  by_cases z : g + 1 + c = g + 4
  · rw [if_pos z, if_neg (by omega), ← z]; exact b1.2.2.1 c q1 i q2
  · rw [if_neg z]; exact b1.2.2.1 c q1 i q2
theorem eF.third {la now1 nc1 now2 nr2 : Nat} (hg : g = 38 ∨ g = 49) (z : eF g T s now nc nr I L J L' now1 nc1 now2 nr2 I1 L1 J1 L1') (hl : nc ≤ la) (x : Int32) : eF g T s now nc nr I L J L' now1 nc1 now2 nr2 (j_up I1 (g + 4) la x) L1 J1 L1' := by
  obtain ⟨b1, b2, b3, b4, b5, b6, b7, b8, b9⟩ := z
  have r27 : j_up I1 (g + 4) la x 27 = I1 27 := j_up_cell _ (by omega) _ _
  have rg : j_up I1 (g + 4) la x g = I1 g := j_up_cell _ (by omega) _ _
  refine ⟨⟨fun c q1 q2 => by rw [j_up_cell _ (by omega)]; exact b1.1 c q1 q2, fun q q1 => by rw [rg]; exact b1.2.1 q q1, fun c q1 i q2 => ?_, fun q q1 q2 q3 q4 => by rw [r27]; exact b1.2.2.2.1 q q1 q2 q3 q4, b1.2.2.2.2.1, b1.2.2.2.2.2⟩, b2, by rw [r27]; exact b3, b4, by rw [r27]; exact b5, b6, b7, by rw [rg]; exact b8, b9⟩
  rw [j_up_app]
  by_cases z : g + 1 + c = g + 4
  · rw [if_pos z, if_neg (by omega), ← z]; exact b1.2.2.1 c q1 i q2
  · rw [if_neg z]; exact b1.2.2.1 c q1 i q2
theorem eF.addC {now1 nc1 now2 nr2 : Nat} (hg : g = 38 ∨ g = 49) (z : eF g T s now nc nr I L J L' now1 nc1 now2 nr2 I1 L1 J1 L1') (hc : nc1 < 1201) (a b x y w : Int32) : eF g T s now nc nr I L J L' now1 (nc1 + 1) now2 nr2 (adC g I1 nc1 a b x y w) L1 J1 L1' := by
  obtain ⟨c1, _, _, _, _, _, c2, c3, c4⟩ := adC_at (I := I1) g nc1 a b x y w
  obtain ⟨b1, b2, b3, b4, b5, b6, b7, b8, b9⟩ := z
  have r27 : adC g I1 nc1 a b x y w 27 = I1 27 := c2 27 (by omega)
  exact ⟨⟨fun c q1 q2 => (c2 c q2).trans (b1.1 c q1 q2), fun q q1 => (c3 q q1).trans (b1.2.1 q q1), fun c q1 i q2 => (c1 i (by omega) c q1).trans (b1.2.2.1 c q1 i q2), fun q q1 q2 q3 q4 => by rw [r27]; exact b1.2.2.2.1 q q1 q2 q3 q4, b1.2.2.2.2.1, b1.2.2.2.2.2⟩, b2, by rw [r27]; exact b3, b4, by rw [r27]; exact b5, by omega, by omega, c4, b9⟩
end PARG
