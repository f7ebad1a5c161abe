/-! SEA: the sea's sums, whole numbers -/
section SEAV
variable {d e : Nat} {I J : Nat → Nat → Int32} {L L' : Nat → Nat → Int64} {m : Nat → Int32} {o : Nat}
/-- the water's amount and moments below a plane -/
def VW (m : Nat → Int32) (o w : Nat) (a b c : Int) : Int := sZ (fun s => sZ (colW (hLo m) (hHi m) (pFo m o) a b c w s) 0 16) 0 16
/-- the same of some slice alone -/
def VS (m : Nat → Int32) (o : Nat) (a b c : Int) (s : Nat) : Int := sZ (colF (hLo m) (hHi m) (pFo m o) a b c s) 0 16
abbrev wM_ (sb : Nat → Bool) (m : Nat → Int32) (bt : Nat → Int) (a b c : Int) : Int := wMA sb (hLo m) (hHi m) (hSF m) (hST m) (hCF m) (hCT m) (hFl m) (hRf m) bt a b c 17
abbrev wB_ (sb : Nat → Bool) (m : Nat → Int32) (bt : Nat → Int) (a b c : Int) (t0 t1 w : Nat) : Int := wB sb (hLo m) (hHi m) (hSF m) (hST m) (hCF m) (hCT m) (hFl m) (hRf m) bt a b c t0 t1 w 17
theorem mQ.hT (h : mQ m I J) : ∀ q, q < 17 → hST m q ≤ 15 ∧ hCT m q ≤ 15 := fun q hq => ⟨(h.sp hq).2.1, (h.sp hq).2.2.2.1⟩
theorem wM_V (h : mQ m I J) (a b c : Int) : wM_ (sbO o) m (hBt m o) a b c = VW m o 0 a b c := by
  rw [wM_, wMA_cols _ h.hT]
  refine sZ_congr (fun s => ?_) 0 16
  refine sZ_congr (fun k => ?_) 0 16
  exact col_s (oC m o s k) _ _ _
theorem inT2_0 {q s k : Nat} {sF sT cF cT : Nat → Nat} (h : sT q ≤ 15) : inT2 sF sT cF cT 0 15 q s k ↔ inB sF sT cF cT q s k := by
  unfold inT2 inB fS0 nS0 fS0
  constructor
  · rintro ⟨⟨x1, x2⟩, x3⟩
    refine ⟨⟨?_, ?_⟩, x3⟩ <;> (revert x1 x2; (repeat' split) <;> omega)
  · rintro ⟨⟨x1, x2⟩, x3⟩
    refine ⟨⟨?_, ?_⟩, x3⟩ <;> ((repeat' split) <;> omega)
theorem ite_mul0 (p : Prop) [Decidable p] (x y : Int) : (if p then x * y else 0) = (if p then x else 0) * y := by
  split
  · rfl
  · rw [Int.zero_mul]
theorem wB_V (h : mQ m I J) (a b c : Int) (w : Nat) : wB_ (sbO o) m (hBt m o) a b c 0 15 w = VW m o w a b c := by
  rw [wB_, wB_cols _ h.hT]
  refine sZ_congr (fun s => ?_) 0 16
  refine sZ_congr (fun k => ?_) 0 16
  have ei : ∀ g : Nat → Int, sZ (fun q => if sbO o q = true ∧ inT2 (hSF m) (hST m) (hCF m) (hCT m) 0 15 q s k then g q else 0) 0 17 = sZ (fun q => if oC m o s k q then g q else 0) 0 17 := by
    intro g
    refine sZ_cg (fun q q1 q2 => ?_)
    by_cases z : oC m o s k q
    · rw [if_pos z, if_pos ⟨z.1, (inT2_0 (h.sp (q := q) (by omega)).2.1).mpr z.2⟩]
    · rw [if_neg z, if_neg (fun y => z ⟨y.1, (inT2_0 (h.sp (q := q) (by omega)).2.1).mp y.2⟩)]
  rw [ei]
  have c0 : sZ (fun q => if oC m o s k q then wP (wL (hLo m (16 * s + k)) (hFl m q)) (wU (hHi m (16 * s + k)) (hRf m q) (plY a b c s k)) * hBt m o q else 0) 0 17 = colF (hLo m) (hHi m) (pFo m o) a b c s k := col_s (oC m o s k) _ _ _
  unfold gC colW
  by_cases w0 : w = 0
  · simp only [if_pos w0]; exact c0
  simp only [if_neg w0]
  by_cases w1 : w = 1
  · simp only [if_pos w1]
    rw [← c0, ← sZ_mul]
    refine sZ_congr (fun q => ?_) 0 17
    exact ite_mul0 _ _ _
  simp only [if_neg w1]
  by_cases w2 : w = 2
  · simp only [if_pos w2]
    rw [← c0, ← sZ_mul]
    refine sZ_congr (fun q => ?_) 0 17
    rw [← ite_mul0]
    rw [Int.mul_right_comm]
  simp only [if_neg w2]
  exact col_z (oC m o s k) _ _ _
theorem wB_S (h : mQ m I J) (a b c : Int) {t : Nat} (ht : t < 16) : wB_ (sbO o) m (hBt m o) a b c t t 0 = VS m o a b c t := by
  rw [wB_, wB_cols _ h.hT, sZ_one (p := t) (by omega) (by omega)]
  · refine sZ_congr (fun k => ?_) 0 16
    refine Eq.trans (sZ_cg (fun q q1 q2 => ?_)) (col_s (oC m o t k) (hLo m (16 * t + k)) (hHi m (16 * t + k)) (plY a b c t k))
    have hq := (h.sp (q := q) (by omega)).2.1
    have : inT2 (hSF m) (hST m) (hCF m) (hCT m) t t q t k ↔ inB (hSF m) (hST m) (hCF m) (hCT m) q t k := by
      unfold inT2 inB fS0 nS0 fS0
      constructor
      · rintro ⟨⟨x1, x2⟩, x3⟩
        refine ⟨⟨?_, ?_⟩, x3⟩ <;> (revert x1 x2; (repeat' split) <;> omega)
      · rintro ⟨⟨x1, x2⟩, x3⟩
        refine ⟨⟨?_, ?_⟩, x3⟩ <;> ((repeat' split) <;> omega)
    by_cases z : oC m o t k q
    · rw [if_pos z, if_pos ⟨z.1, this.mpr z.2⟩]; rfl
    · rw [if_neg z, if_neg (fun y => z ⟨y.1, this.mp y.2⟩)]
  · intro s s1 s2 s3
    rw [sZ_cg (g := fun _ => 0), sZ_nul]
    intro k k1 k2
    rw [sZ_cg (g := fun _ => 0), sZ_nul]
    intro q q1 q2
    rw [if_neg]
    rintro ⟨-, ⟨x1, x2⟩, -⟩
    unfold fS0 at x1 x2
    unfold nS0 fS0 at x2
    revert x1 x2
    (repeat' split) <;> omega
/-- bounds of sums over points -/
theorem sI_bd {f : Int → Int} {B lo : Int} : ∀ {n : Nat}, (∀ y, lo ≤ y → y < lo + n → 0 ≤ f y ∧ f y ≤ B) → 0 ≤ sI f lo n ∧ sI f lo n ≤ B * n := by
  intro n
  induction n with
  | zero => intro _; exact ⟨Int.le_refl _, by show (0 : Int) ≤ B * 0; omega⟩
  | succ n ih =>
    intro h
    have := ih (fun y y1 y2 => h y y1 (by omega))
    have h2 := h (lo + n) (by omega) (by omega)
    show 0 ≤ sI f lo n + f (lo + n) ∧ sI f lo n + f (lo + n) ≤ B * ((n + 1 : Nat) : Int)
    rw [show ((n + 1 : Nat) : Int) = n + 1 by omega, Int.mul_add, Int.mul_one]
    omega
theorem sR_bd {f : Int → Int} {B a b N : Int} (h : ∀ y, a ≤ y → y < b → 0 ≤ f y ∧ f y ≤ B) (hB : 0 ≤ B) (hN : b - a ≤ N) (h0 : 0 ≤ N) : 0 ≤ sR f a b ∧ sR f a b ≤ B * N := by
  unfold sR
  have := sI_bd (f := f) (B := B) (lo := a) (n := (b - a).toNat) (fun y y1 y2 => h y y1 (by omega))
  refine ⟨this.1, Int.le_trans this.2 (Int.mul_le_mul_of_nonneg_left (by omega) hB)⟩
theorem sZ_bd {f : Nat → Int} {a : Nat} {B : Int} : ∀ {n : Nat}, (∀ i, a ≤ i → i < a + n → 0 ≤ f i ∧ f i ≤ B) → 0 ≤ sZ f a n ∧ sZ f a n ≤ B * n := by
  intro n
  induction n with
  | zero => intro _; exact ⟨Int.le_refl _, by show (0 : Int) ≤ B * 0; omega⟩
  | succ n ih =>
    intro h
    have := ih (fun y y1 y2 => h y y1 (by omega))
    have h2 := h (a + n) (by omega) (by omega)
    show 0 ≤ sZ f a n + f (a + n) ∧ sZ f a n + f (a + n) ≤ B * ((n + 1 : Nat) : Int)
    rw [show ((n + 1 : Nat) : Int) = n + 1 by omega, Int.mul_add, Int.mul_one]
    omega
theorem pF_out (h : mQ m I J) {s k : Nat} {y : Int} (hy : y < 0 ∨ 200000 ≤ y) : pFo m o s k y = 0 := by
  unfold pFo ptB
  rw [sZ_cg (g := fun _ => 0), sZ_nul]
  intro q q1 q2
  obtain ⟨-, -, -, -, x5, x6, x7, x8⟩ := h.sp (q := q) (by omega)
  by_cases z : oC m o s k q
  · rw [if_pos z]
    unfold bx
    rw [if_neg]
    omega
  · rw [if_neg z]
theorem pF_nn (h : mQ m I J) (hr : ∀ p, p < 16 → spR m p) (ho : opKd m o) {s k : Nat} (hs : s < 16) (hk : k < 16) (y : Int) : 0 ≤ pFo m o s k y ∧ pFo m o s k y ≤ 16 := by
  by_cases z : y < 0 ∨ 200000 ≤ y
  · rw [pF_out h z]; omega
  · exact pF_b h hr ho hs hk (by omega) (by omega)
/-- bounds of the amount -/
theorem colF_b (h : mQ m I J) (hr : ∀ p, p < 16 → spR m p) (ho : opKd m o) {s k : Nat} (hs : s < 16) (hk : k < 16) (a b c : Int) : 0 ≤ colF (hLo m) (hHi m) (pFo m o) a b c s k ∧ colF (hLo m) (hHi m) (pFo m o) a b c s k ≤ 2048000 := by
  obtain ⟨l0, l1, l2, l3⟩ := h.lo (i := 16 * s + k) (by omega)
  exact sR_bd (B := 16) (N := 128000) (fun y _ _ => pF_nn h hr ho hs hk y) (by omega) (by split <;> omega) (by omega)
theorem VW_b (h : mQ m I J) (hr : ∀ p, p < 16 → spR m p) (ho : opKd m o) (a b c : Int) : 0 ≤ VW m o 0 a b c ∧ VW m o 0 a b c ≤ 524288000 := by
  have := sZ_bd (f := fun s => sZ (colW (hLo m) (hHi m) (pFo m o) a b c 0 s) 0 16) (a := 0) (n := 16) (B := 32768000) (fun s _ hs => by
    have := sZ_bd (f := colW (hLo m) (hHi m) (pFo m o) a b c 0 s) (a := 0) (n := 16) (B := 2048000) (fun k _ hk => colF_b h hr ho (by omega) (by omega) a b c)
    exact ⟨this.1, by have := this.2; omega⟩)
  exact ⟨this.1, by have := this.2; unfold VW; omega⟩
theorem sZ_mono {f g : Nat → Int} {a : Nat} : ∀ {n : Nat}, (∀ i, a ≤ i → i < a + n → f i ≤ g i) → sZ f a n ≤ sZ g a n := by
  intro n
  induction n with
  | zero => intro _; exact Int.le_refl _
  | succ n ih =>
    intro h
    have h1 := ih (fun i i1 i2 => h i i1 (by omega))
    have h2 := h (a + n) (by omega) (by omega)
    show sZ f a n + f (a + n) ≤ sZ g a n + g (a + n)
    omega
theorem VW_mono (h : mQ m I J) (hr : ∀ p, p < 16 → spR m p) (ho : opKd m o) (b c : Int) {a a' : Int} (ha : a ≤ a') : VW m o 0 a b c ≤ VW m o 0 a' b c := by
  refine sZ_mono (fun s _ hs => sZ_mono (fun k _ hk => ?_))
  refine sR_up (fun y => (pF_nn h hr ho (by omega) (by omega) y).1) _ ?_
  have : plY a b c s k ≤ plY a' b c s k := by unfold plY; omega
  (repeat' split) <;> omega
theorem VW_low (h : mQ m I J) {b c : Int} (hb : -2048 ≤ b ∧ b ≤ 2048) (hc : -2048 ≤ c ∧ c ≤ 2048) (o : Nat) : VW m o 0 (-100000) b c = 0 := by
  unfold VW
  rw [sZ_cg (g := fun _ => 0), sZ_nul]
  intro s _ hs
  rw [sZ_cg (g := fun _ => 0), sZ_nul]
  intro k _ hk
  obtain ⟨l0, l1, l2, l3⟩ := h.lo (i := 16 * s + k) (by omega)
  refine sR_nil ?_
  have hp : plY (-100000) b c s k < 0 := by
    have := (plY_b (a := 200001) (s := s) (k := k) (by omega) hb hc (by omega) (by omega)).2
    unfold plY at this ⊢
    omega
  rw [if_pos (by omega)]
  omega
/-- the greatest level, as a number -/
noncomputable def lvl (M : Int → Int) (most : Int) : Int := by
  classical
  exact if h : ∃ be, lvI M most be (be + 1) then Classical.choose h else 0
theorem lvl_eq {M : Int → Int} (hM : ∀ a b, a ≤ b → M a ≤ M b) {most x : Int} (hx : lvI M most x (x + 1)) : lvl M most = x := by
  unfold lvl
  have h : ∃ be, lvI M most be (be + 1) := ⟨x, hx⟩
  rw [dif_pos h]
  exact lv_one hM (Classical.choose_spec h) hx
/-- the sea's level at a weight -/
noncomputable def seaL (m : Nat → Int32) (o : Nat) (W b c : Int) : Int := lvl (fun a => VW m o 0 a b c) W
end SEAV
