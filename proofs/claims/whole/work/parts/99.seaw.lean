/-! SEA: a liquid's sums -/
section SEAW
variable {d e : Nat} {I J : Nat → Nat → Int32} {L L' : Nat → Nat → Int64} {m : Nat → Int32} {o : Nat}
/-- a space's amount and moments below a plane -/
def LW (m : Nat → Int32) (p w : Nat) (a b c : Int) : Int := sZ (fun s => sZ (fun k => gC (hLo m) (hHi m) (hFl m) (hRf m) (fun _ => 1) a b c w (p + 1) s k) (hCF m (p + 1)) (hCT m (p + 1) + 1 - hCF m (p + 1))) (hSF m (p + 1)) (hST m (p + 1) + 1 - hSF m (p + 1))
/-- the same of a slice alone -/
def LSl (m : Nat → Int32) (p : Nat) (a b c : Int) (s : Nat) : Int := if hSF m (p + 1) ≤ s ∧ s ≤ hST m (p + 1) then sZ (fun k => gC (hLo m) (hHi m) (hFl m) (hRf m) (fun _ => 1) a b c 0 (p + 1) s k) (hCF m (p + 1)) (hCT m (p + 1) + 1 - hCF m (p + 1)) else 0
def sb1 (p q : Nat) : Bool := decide (q = p + 1)
theorem gC_1 {o p : Nat} (hp : o.testBit p = false) (a b c : Int) (w s k : Nat) : gC (hLo m) (hHi m) (hFl m) (hRf m) (hBt m o) a b c w (p + 1) s k = gC (hLo m) (hHi m) (hFl m) (hRf m) (fun _ => 1) a b c w (p + 1) s k := by
  have : hBt m o (p + 1) = 1 := by
    unfold hBt; rw [if_neg (by omega), Nat.add_sub_cancel, if_neg (by rw [hp]; decide)]
  unfold gC
  rw [this]
theorem wM_L {p : Nat} (hp : p < 16) (ho : o.testBit p = false) (a b c : Int) : wM_ (sb1 p) m (hBt m o) a b c = LW m p 0 a b c := by
  unfold wM_ wMA
  rw [sZ_one (p := p + 1) (by omega) (by omega), if_pos (by unfold sb1; simp)]
  · have : hBt m o (p + 1) = 1 := by
      unfold hBt; rw [if_neg (by omega), Nat.add_sub_cancel, if_neg (by rw [ho]; decide)]
    rw [this, Int.mul_one]
    unfold mA LW cA
    refine sZ_congr (fun s => ?_) _ _
    refine sZ_congr (fun k => ?_) _ _
    unfold gC
    rw [if_pos rfl, Int.mul_one]
    rfl
  · intro q _ _ hq
    rw [if_neg (by unfold sb1; simp [hq])]
theorem wB_L (h : mQ m I J) {p : Nat} (hp : p < 16) (ho : o.testBit p = false) (a b c : Int) (w : Nat) : wB_ (sb1 p) m (hBt m o) a b c 0 15 w = LW m p w a b c := by
  unfold wB_ wB
  rw [sZ_one (p := p + 1) (by omega) (by omega), if_pos (by unfold sb1; simp)]
  · obtain ⟨x1, x2, -⟩ := h.sp (q := p + 1) (by omega)
    unfold bkB LW
    have e1 : fS0 (hSF m) 0 (p + 1) = hSF m (p + 1) := by unfold fS0; split <;> omega
    have e2 : nS0 (hSF m) (hST m) 0 15 (p + 1) = hST m (p + 1) + 1 - hSF m (p + 1) := by
      unfold nS0; rw [e1]; split <;> omega
    rw [e1, e2]
    refine sZ_congr (fun s => ?_) _ _
    rw [gB_cols]
    refine sZ_congr (fun k => ?_) _ _
    exact gC_1 ho a b c w s k
  · intro q _ _ hq
    rw [if_neg (by unfold sb1; simp [hq])]
theorem wB_LS (h : mQ m I J) {p : Nat} (hp : p < 16) (ho : o.testBit p = false) (a b c : Int) {t : Nat} (ht : t < 16) : wB_ (sb1 p) m (hBt m o) a b c t t 0 = LSl m p a b c t := by
  unfold wB_ wB
  rw [sZ_one (p := p + 1) (by omega) (by omega), if_pos (by unfold sb1; simp)]
  · obtain ⟨x1, x2, -⟩ := h.sp (q := p + 1) (by omega)
    unfold bkB LSl
    by_cases z : hSF m (p + 1) ≤ t ∧ t ≤ hST m (p + 1)
    · rw [if_pos z]
      have e1 : fS0 (hSF m) t (p + 1) = t := by unfold fS0; split <;> omega
      have e2 : nS0 (hSF m) (hST m) t t (p + 1) = 1 := by
        unfold nS0; rw [e1]; split <;> omega
      rw [e1, e2]
      show 0 + gB _ _ _ _ _ _ _ _ _ _ _ _ (t + 0) = _
      rw [Int.zero_add, Nat.add_zero, gB_cols]
      refine sZ_congr (fun k => ?_) _ _
      exact gC_1 ho a b c 0 t k
    · rw [if_neg z]
      have e2 : nS0 (hSF m) (hST m) t t (p + 1) = 0 := by
        unfold nS0 fS0; (repeat' split) <;> omega
      rw [e2]; rfl
  · intro q _ _ hq
    rw [if_neg (by unfold sb1; simp [hq])]
theorem gC0_b (h : mQ m I J) {p : Nat} (hp : p < 16) (a b c : Int) (s k : Nat) : 0 ≤ gC (hLo m) (hHi m) (hFl m) (hRf m) (fun _ => 1) a b c 0 (p + 1) s k ∧ gC (hLo m) (hHi m) (hFl m) (hRf m) (fun _ => 1) a b c 0 (p + 1) s k ≤ 200000 := by
  obtain ⟨-, -, -, -, x5, x6, x7, x8⟩ := h.sp (q := p + 1) (by omega)
  unfold gC
  rw [if_pos rfl, Int.mul_one]
  unfold wP wL wU
  (repeat' split) <;> omega
theorem LW_b (h : mQ m I J) {p : Nat} (hp : p < 16) (a b c : Int) : 0 ≤ LW m p 0 a b c ∧ LW m p 0 a b c ≤ 51200000 := by
  obtain ⟨x1, x2, x3, x4, -⟩ := h.sp (q := p + 1) (by omega)
  have i1 : ∀ s, 0 ≤ sZ (fun k => gC (hLo m) (hHi m) (hFl m) (hRf m) (fun _ => 1) a b c 0 (p + 1) s k) (hCF m (p + 1)) (hCT m (p + 1) + 1 - hCF m (p + 1)) ∧ sZ (fun k => gC (hLo m) (hHi m) (hFl m) (hRf m) (fun _ => 1) a b c 0 (p + 1) s k) (hCF m (p + 1)) (hCT m (p + 1) + 1 - hCF m (p + 1)) ≤ 3200000 := by
    intro s
    have := sZ_b (f := fun k => gC (hLo m) (hHi m) (hFl m) (hRf m) (fun _ => 1) a b c 0 (p + 1) s k) (a := hCF m (p + 1)) (m := 200000) (fun k => gC0_b h hp a b c s k) (hCT m (p + 1) + 1 - hCF m (p + 1))
    omega
  have := sZ_b (a := hSF m (p + 1)) (m := 3200000) i1 (hST m (p + 1) + 1 - hSF m (p + 1))
  unfold LW
  omega
theorem LW_mono {p : Nat} (b c : Int) {a a' : Int} (ha : a ≤ a') : LW m p 0 a b c ≤ LW m p 0 a' b c := by
  refine sZ_mono (fun s _ _ => sZ_mono (fun k _ _ => ?_))
  have : plY a b c s k ≤ plY a' b c s k := by unfold plY; omega
  unfold gC
  rw [if_pos rfl, if_pos rfl, Int.mul_one, Int.mul_one]
  unfold wP wL wU
  (repeat' split) <;> omega
theorem LW_low (h : mQ m I J) {b c : Int} (hb : -2048 ≤ b ∧ b ≤ 2048) (hc : -2048 ≤ c ∧ c ≤ 2048) {p : Nat} (hp : p < 16) : LW m p 0 (-100000) b c = 0 := by
  obtain ⟨x1, x2, x3, x4, x5, x6, x7, x8⟩ := h.sp (q := p + 1) (by omega)
  unfold LW
  rw [sZ_cg (g := fun _ => 0), sZ_nul]
  intro s _ hs
  rw [sZ_cg (g := fun _ => 0), sZ_nul]
  intro k _ hk
  have hp : plY (-100000) b c s k < 0 := by
    have := (plY_b (a := 200001) (s := s) (k := k) (by omega) hb hc (by omega) (by omega)).2
    unfold plY at this ⊢
    omega
  unfold gC
  rw [if_pos rfl, Int.mul_one]
  unfold wP wL wU
  (repeat' split) <;> omega
/-- a liquid's level -/
noncomputable def liqL (m : Nat → Int32) (p : Nat) (b c : Int) : Int := lvl (fun a => LW m p 0 a b c) (64 * mv m (400 + p * 2))
end SEAW
