/-! SEA: one round, second one -/
section SEBH
variable {d e : Nat} {I J : Nat → Nat → Int32} {L L' : Nat → Nat → Int64} {m : Nat → Int32} {o : Nat}
def rSn (J : Nat → Nat → Int32) (j : Nat) : Int := (xJ J 46 j - xJ J 45 j) * xJ J 47 j
theorem rnY.sum {F : Int → Int} {hi : Int} {b : Nat} : ∀ (n a : Nat) (lo : Int), a + n = b → rnY J a b lo hi F → sZ (rSn J) a n = sR F lo hi := by
  intro n
  induction n with
  | zero =>
    intro a lo hn h
    exact (sR_nil (h.2.2.2 (by omega))).symm
  | succ n ih =>
    intro a lo hn h
    obtain ⟨h1, h2, h3, h4⟩ := h
    obtain ⟨g1, g2, g3, g4, g5, g6, g7, g8⟩ := h2 a (Nat.le_refl _) (by omega)
    have hlo := h3 (by omega)
    have nx : rnY J (a + 1) b (xJ J 46 a) hi F := ⟨by omega, fun j j1 j2 => h2 j (by omega) j2, fun q => g7 q, fun q => by rw [g8 q]; exact Int.le_refl _⟩
    rw [sZ_front, ih (a + 1) (xJ J 46 a) (by omega) nx, sR_split (f := F) (a := lo) (b := xJ J 46 a) (c := hi) (by omega) g3]
    congr 1
    unfold rSn
    rw [← hlo, sR_congr (g := fun _ => xJ J 47 a) (fun y y1 y2 => g6 y y1 y2), sR_const (Int.le_of_lt g1), Int.mul_comm]
theorem sZ_shift (g : Nat → Int) (a : Nat) : ∀ n : Nat, sZ g a n = sZ (fun k => g (a + k)) 0 n := by
  intro n
  induction n with
  | zero => rfl
  | succ n ih => show sZ g a n + g (a + n) = sZ (fun k => g (a + k)) 0 n + g (a + (0 + n)); rw [ih, Nat.zero_add]
theorem sZ_16 (g : Nat → Int) : ∀ n : Nat, sZ g 0 (16 * n) = sZ (fun s => sZ (fun k => g (16 * s + k)) 0 16) 0 n := by
  intro n
  induction n with
  | zero => rfl
  | succ n ih =>
    show sZ g 0 (16 * n + 16) = sZ (fun s => sZ (fun k => g (16 * s + k)) 0 16) 0 n + sZ (fun k => g (16 * (0 + n) + k)) 0 16
    rw [sZ_split, ih, sZ_shift g (0 + 16 * n) 16, Nat.zero_add, Nat.zero_add]
theorem rnZ.sum {f : Nat → Nat} (h : rnZ m o J f 256) : sZ (rSn J) 0 (f 256) = sZ (fun i => sR (pFo m o (i / 16) (i % 16)) (hLo m i) (hHi m i)) 0 256 := by
  obtain ⟨h1, h2, h3⟩ := h
  have f0 : f 0 = 0 := by have := h2 0 (by omega); omega
  have key : ∀ i, i ≤ 256 → sZ (rSn J) 0 (f i) = sZ (fun i => sR (pFo m o (i / 16) (i % 16)) (hLo m i) (hHi m i)) 0 i := by
    intro i
    induction i with
    | zero => intro _; rw [f0]; rfl
    | succ i ih =>
      intro hi
      obtain ⟨-, y⟩ := h3 i (by omega)
      have le := y.1
      show _ = sZ (fun i => sR (pFo m o (i / 16) (i % 16)) (hLo m i) (hHi m i)) 0 i + sR (pFo m o ((0 + i) / 16) ((0 + i) % 16)) (hLo m (0 + i)) (hHi m (0 + i))
      rw [Nat.zero_add, ← ih (by omega), ← y.sum (f (i + 1) - f i) (f i) _ (by omega), show f (i + 1) = f i + (f (i + 1) - f i) by omega, sZ_split, Nat.zero_add, show f i + (f (i + 1) - f i) - f i = f (i + 1) - f i by omega]
  exact key 256 (Nat.le_refl _)
/-- all that the hull could lift -/
theorem VW_all (h : mQ m I J) : sZ (fun i => sR (pFo m o (i / 16) (i % 16)) (hLo m i) (hHi m i)) 0 256 = VW m o 0 200000 0 0 := by
  rw [show (256 : Nat) = 16 * 16 from rfl, sZ_16]
  refine sZ_cg (fun s _ hs => sZ_cg (fun k _ hk => ?_))
  obtain ⟨l0, l1, l2, l3⟩ := h.lo (i := 16 * s + k) (by omega)
  show _ = sR (pFo m o s k) (hLo m (16 * s + k)) (if plY 200000 0 0 s k < hHi m (16 * s + k) then plY 200000 0 0 s k else hHi m (16 * s + k))
  have hp : plY 200000 0 0 s k = 200000 := by unfold plY; omega
  rw [hp, if_neg (by omega), show (16 * s + k) / 16 = s by omega, show (16 * s + k) % 16 = k by omega]
theorem hlS_t : ∀ (n : Nat) (lo hi c : Int), (∃ t, sD m o lo = some t) → lo < hi → -2048 ≤ lo → hi ≤ 2048 → hlS (sD m o) n lo hi = some c → (∃ t, sD m o c = some t) ∧ -2048 ≤ c ∧ c < 2048 := by
  intro n
  induction n with
  | zero => intro lo hi c hs h1 h2 h3 hc; injection hc with hc; subst hc; exact ⟨hs, by omega, by omega⟩
  | succ n ih =>
    intro lo hi c hs h1 h2 h3 hc
    unfold hlS at hc
    by_cases g : 1 < hi - lo
    · rw [if_pos g] at hc
      cases hq : sD m o (lo + (hi - lo) / 2) with
      | none => rw [hq] at hc; cases hc
      | some t =>
        rw [hq] at hc
        cases t with
        | true => exact ih lo _ c hs (by omega) h2 (by omega) hc
        | false => exact ih _ hi c ⟨_, hq⟩ (by omega) (by omega) h3 hc
    · rw [if_neg g] at hc; injection hc with hc; subst hc; exact ⟨hs, by omega, by omega⟩
theorem hE_t {c : Int} (h : hE m o = some c) : (∃ b, tR m o c = some b) ∧ -2048 ≤ c ∧ c < 2048 := by
  unfold hE at h
  split at h
  · next h1 h2 =>
    obtain ⟨⟨t, ht⟩, b1, b2⟩ := hlS_t 13 (-2048) 2048 c ⟨_, h1⟩ (by omega) (by omega) (by omega) h
    exact ⟨sD_tR ht, b1, b2⟩
  · cases h
/-- one round of the second one: how it ends -/
def rdR (m : Nat → Int32) (o : Nat) (J : Nat → Nat → Int32) (L : Nat → Nat → Int64) : Prop := (VW m o 0 200000 0 0 ≤ WT m o ∧ J 0 60 = 1) ∨ (WT m o < VW m o 0 200000 0 0 ∧ hE m o = none ∧ J 0 60 = 2) ∨ (WT m o < VW m o 0 200000 0 0 ∧ ∃ c b, hE m o = some c ∧ tR m o c = some b ∧ J 0 60 = 0 ∧ J 0 66 = vI (seaL m o (WT m o) b c) ∧ J 0 67 = vI b ∧ J 0 68 = vI c ∧ L 0 65 = lI (VA m o 0 b c) ∧ L 38 0 = lI (XA m o 1 b c) ∧ L 38 1 = lI (XA m o 2 b c) ∧ L 38 2 = lI (XA m o 3 b c))
def frD (J J' : Nat → Nat → Int32) (L L' : Nat → Nat → Int64) : Prop := (∀ c, c ≠ 0 → c < 44 ∨ 47 < c → J' c = J c) ∧ (∀ q, q ≠ 60 → q ≠ 66 → q ≠ 67 → q ≠ 68 → q ≠ 86 → J' 0 q = J 0 q) ∧ (∀ c, c ≠ 0 → c ≠ 38 → L' c = L c) ∧ ∀ q, q < 63 ∨ 85 < q → L' 0 q = L 0 q
theorem rnZ.bd {f : Nat → Nat} (hz : rnZ m o J f 256) (h : mQ m I J) {j : Nat} (hj : j < f 256) : 0 ≤ xJ J 45 j ∧ xJ J 45 j < xJ J 46 j ∧ xJ J 46 j ≤ 128000 ∧ -100 ≤ xJ J 47 j ∧ xJ J 47 j ≤ 100 := by
  obtain ⟨h1, h2, h3⟩ := hz
  have key : ∀ i, i ≤ 256 → j < f i → 0 ≤ xJ J 45 j ∧ xJ J 45 j < xJ J 46 j ∧ xJ J 46 j ≤ 128000 ∧ -100 ≤ xJ J 47 j ∧ xJ J 47 j ≤ 100 := by
    intro i
    induction i with
    | zero => intro _ hj; have := h2 0 (by omega); omega
    | succ i ih =>
      intro hi hj
      by_cases q : j < f i
      · exact ih (by omega) q
      · obtain ⟨-, y1, y2, y3, y4⟩ := h3 i (by omega)
        obtain ⟨g1, g2, g3, g4, g5, -⟩ := y2 j (by omega) hj
        have := h.lo (i := i) (by omega)
        omega
  exact key 256 (Nat.le_refl _) hj
theorem lcl (x y : Int64) : lg_cmp x y < 0 ↔ x.toInt < y.toInt := lcmp_neg x y
theorem round_r2 (h : mQ m I J) (hr : ∀ p, p < 16 → spR m p) (hw : ∀ k, k < 24 → wtR m k) (hk : opKd m o) (ho : J 0 62 = nI o) : ∃ J' L', rfS m o I J' L' ∧ L' 0 64 = lI (VW m o 0 200000 0 0) ∧ rdR m o J' L' ∧ frD J J' L L' ∧ jv (e + 11) 320 0 [some (.ref 0), none] [] (shR, J, L, pR) = some (none, (shR, J', L', pR)) := by
  obtain ⟨J1, f, a1, a2, a3, a4⟩ := runs_r (e := e + 8) (L := L) h hr hk ho
  have h1 : mQ m I J1 := h.frR (fun c c1 c6 => a1 c (by omega))
  have o1 : J1 0 62 = nI o := by rw [a1 0 (by decide)]; exact ho
  have wr := weight_r (e := e + 8) (L := L) h1 hw o1
  have wb := WT_b h1 o
  have vb := VW_b h1 hr hk 200000 0 0
  generalize hL2 : j_up (j_up L 0 63 (lI (WT m o))) 0 64 0 = L2
  have fle : f 256 ≤ 8448 := by have := a2.2.1 256 (Nat.le_refl _); omega
  have add : ∀ (n j : Nat) (A : Int) (Lx : Nat → Nat → Int64), j + n = f 256 → Lx 0 64 = lI A → jv (e + 11) 320 19 [some (.ref 0), some (.int (nI j))] [] (shR, J1, Lx, pR) = jv (e + 11) 320 19 [some (.ref 0), some (.int (nI (f 256)))] [] (shR, J1, j_up Lx 0 64 (lI (A + sZ (rSn J1) j n)), pR) := by
    intro n
    induction n with
    | zero =>
      intro j A Lx hj hA
      have : j = f 256 := by omega
      subst this
      have : j_up Lx 0 64 (lI (A + sZ (rSn J1) (f 256) 0)) = Lx := by
        funext c k
        show j_up Lx 0 64 (lI (A + 0)) c k = _
        rw [Int.add_zero]
        by_cases z : c = 0 ∧ k = 64
        · rw [z.1, z.2, j_up_eq, hA]
        · rw [j_up_nq _ (by omega)]
      rw [this]
    | succ n ih =>
      intro j A Lx hj hA
      have jj : j_in (nI j) 9000 = true := j_in_nI (by omega) (by decide)
      have cj : (nI j).toNatClampNeg = j := nI_clamp (by omega)
      obtain ⟨x1, x2, x3, x4, x5⟩ := a2.bd h1 (show j < f 256 by omega)
      rw [B320_19, if_pos (by decide), show (256 : Int32).toNatClampNeg = 256 from rfl, a3, if_pos (nI_lt (by omega) (by omega)), if_pos jj, if_pos jj, if_pos jj, cj, nI_1, hA, xJ_v J1 46 j, xJ_v J1 45 j, xJ_v J1 47 j, vI_sub, vI_64 (z := xJ J1 46 j - xJ J1 45 j) (by omega) (by omega), vI_64 (z := xJ J1 47 j) (by omega) (by omega), lI_mul, lI_add, ih (j + 1) (A + (xJ J1 46 j - xJ J1 45 j) * xJ J1 47 j) _ (by omega) (by rw [j_up_eq]), sZ_front, ← Int.add_assoc]
      have : ∀ v w : Int64, j_up (j_up Lx 0 64 v) 0 64 w = j_up Lx 0 64 w := by
        intro v w
        funext c k
        by_cases z : c = 0 ∧ k = 64
        · rw [z.1, z.2, j_up_eq, j_up_eq]
        · rw [j_up_nq _ (by omega), j_up_nq _ (by omega), j_up_nq _ (by omega)]
      rw [this]
      rfl
  generalize hL3 : j_up L2 0 64 (lI (VW m o 0 200000 0 0)) = L3
  have l63 : L3 0 63 = lI (WT m o) := by rw [← hL3, j_up_nq _ (Or.inr (by decide)), ← hL2, j_up_nq _ (Or.inr (by decide)), j_up_eq]
  have l64 : L3 0 64 = lI (VW m o 0 200000 0 0) := by rw [← hL3, j_up_eq]
  have l3c : ∀ c, c ≠ 0 → L3 c = L c := fun c hc => by rw [← hL3, j_up_cell _ hc, ← hL2, j_up_cell _ hc, j_up_cell _ hc]
  have l3q : ∀ q, q < 63 ∨ 85 < q → L3 0 q = L 0 q := fun q hq => by rw [← hL3, j_up_nq _ (Or.inr (by omega)), ← hL2, j_up_nq _ (Or.inr (by omega)), j_up_nq _ (Or.inr (by omega))]
  have R3 : rfS m o I J1 L3 := ⟨h1, hr, hk, o1, ⟨f, a2, a3⟩, l63⟩
  have run : jv (e + 11) 320 0 [some (.ref 0), none] [] (shR, J, L, pR) = jv (e + 11) 320 19 [some (.ref 0), some (.int (nI (f 256)))] [] (shR, J1, L3, pR) := by
    rw [B320_0, jgo_some (d := e + 10) rfl a4]
    dsimp only [Option.toList_some, Option.toList_none, List.cons_append, List.nil_append]
    rw [B320_4, jgo_some (d := e + 10) rfl wr]
    dsimp only [Option.toList_some, Option.toList_none, List.cons_append, List.nil_append]
    rw [B320_9, hL2]
    refine Eq.trans (add (f 256) 0 0 L2 (by omega) (by rw [← hL2, j_up_eq]; rfl)) ?_
    rw [Int.zero_add, a2.sum, VW_all h1, hL3]
  rw [run, B320_19, if_pos (by decide), show (256 : Int32).toNatClampNeg = 256 from rfl, a3, if_neg (nI_nlt (Nat.le_refl _) (by omega)), l63, l64]
  have cm : lg_cmp (lI (WT m o)) (lI (VW m o 0 200000 0 0)) < 0 ↔ WT m o < VW m o 0 200000 0 0 := by
    rw [lcl, lI_toInt (by omega) (by omega), lI_toInt (by omega) (by omega)]
  -- cells of the second one's own object
  have own : ∀ (J' : Nat → Nat → Int32) (q : Nat) (v : Int32), q ≠ 62 → ∀ L', rfS m o I J' L' → rfS m o I (j_up J' 0 q v) L' := by
    intro J' q v hq L' hS
    obtain ⟨s1, s2, s3, s4, ⟨g, s5, s6⟩, s7⟩ := hS
    have fr : ∀ c, c ≠ 0 → j_up J' 0 q v c = J' c := fun c hc => by rw [j_up_cell _ hc]
    exact ⟨s1.frR (fun c c1 _ => fr c c1), s2, s3, by rw [j_up_nq _ (Or.inr (Ne.symm hq))]; exact s4, ⟨g, s5.cg fr, by rw [fr 44 (by decide)]; exact s6⟩, s7⟩
  by_cases q1 : WT m o < VW m o 0 200000 0 0
  case neg =>
    rw [if_neg (fun y => q1 (cm.mp y))]
    refine ⟨_, _, own J1 60 1 (by decide) L3 R3, l64, Or.inl ⟨by omega, by rw [j_up_eq]⟩, ⟨fun c c1 c2 => by rw [j_up_cell _ c1]; exact a1 c c2, fun q q1 q2 q3 q4 q5 => by rw [j_up_nq _ (Or.inr q1), a1 0 (by decide)], fun c c1 _ => l3c c c1, l3q⟩, rfl⟩
  rw [if_pos (cm.mpr q1)]
  obtain ⟨J4, L4, b1, b2⟩ := heel_r (e := e) R3
  have R4 := R3.fr b1
  have fJ4 : ∀ c, c ≠ 0 → c < 44 ∨ 47 < c → J4 c = J c := fun c c1 c2 => by rw [b1.1 c c1, a1 c c2]
  have fJ0 : ∀ q, q ≠ 86 → J4 0 q = J 0 q := fun q hq => by rw [b1.2.1 q hq, a1 0 (by decide)]
  have fL4 : ∀ c, c ≠ 0 → L4 c = L c := fun c hc => by rw [b1.2.2.1 c hc, l3c c hc]
  have fL0 : ∀ q, q < 63 ∨ 85 < q → L4 0 q = L 0 q := fun q hq => by rw [b1.2.2.2 q (by omega), l3q q hq]
  have l64' : L4 0 64 = lI (VW m o 0 200000 0 0) := by rw [b1.2.2.2 64 (by decide)]; exact l64
  rw [jgo_some (d := e + 10) rfl b2]
  dsimp only [Option.toList_some, Option.toList_none, List.cons_append, List.nil_append]
  rw [B320_90]
  cases hc : hE m o with
  | none =>
    dsimp only
    rw [if_pos rfl]
    exact ⟨_, _, own J4 60 2 (by decide) L4 R4, l64', Or.inr (Or.inl ⟨q1, hc, by rw [j_up_eq]⟩), ⟨fun c c1 c2 => by rw [j_up_cell _ c1]; exact fJ4 c c1 c2, fun q q1 q2 q3 q4 q5 => by rw [j_up_nq _ (Or.inr q1)]; exact fJ0 q q5, fun c c1 _ => fL4 c c1, fL0⟩, rfl⟩
  | some c =>
    obtain ⟨⟨b, hb⟩, c1, c2⟩ := hE_t hc
    have bb := tR_b hb
    dsimp only
    rw [if_neg (show ¬ vI c = 99999 from fun y => by
      have := congrArg Int32.toInt y
      rw [vI_i (by omega) (by omega)] at this
      have e9 : (99999 : Int32).toInt = 99999 := by decide
      omega)]
    have R5 := own (j_up J4 0 60 0) 68 (vI c) (by decide) L4 (own J4 60 0 (by decide) L4 R4)
    obtain ⟨J6, L6, d1, d2⟩ := trim_r (e := e + 2) R5 (c := c) (by omega)
    rw [hb] at d2
    have R6 := R5.fr d1
    rw [jgo_some (d := e + 10) rfl d2]
    dsimp only [Option.toList_some, Option.toList_none, List.cons_append, List.nil_append]
    rw [B320_120, j_up_eq]
    have R7 := own J6 67 (vI b) (by decide) L6 R6
    obtain ⟨J8, L8, g1, g2, g3⟩ := balance_r (e := e + 4) R7 (b := b) (c := c) (by omega) (by omega)
    have R8 := R7.fr g1
    obtain ⟨p1, p2, p3, p4, p5, p6, p7, p8⟩ := g2
    rw [jgo_some (d := e + 10) rfl g3]
    dsimp only [Option.toList_some, Option.toList_none, List.cons_append, List.nil_append]
    rw [B320_132, if_pos (by decide), if_pos (by decide), if_pos (by decide), p1]
    simp (decide := true) only [j_up_app, ↓reduceIte, show (0 : Int32).toNatClampNeg = 0 from rfl, show (1 : Int32).toNatClampNeg = 1 from rfl, show (2 : Int32).toNatClampNeg = 2 from rfl, p2, p3, p4, p5, p6, p7, p8, lI_sub]
    have J86 : ∀ q, q ≠ 86 → J8 0 q = if q = 67 then vI b else if q = 68 then vI c else if q = 60 then 0 else J 0 q := by
      intro q hq
      rw [g1.2.1 q hq, j_up_own, d1.2.1 q hq, j_up_own, j_up_own, fJ0 q hq]
    have L8c : ∀ c, c ≠ 0 → L8 c = L c := fun c hc => by rw [g1.2.2.1 c hc, d1.2.2.1 c hc, fL4 c hc]
    have L80 : ∀ q, q < 63 ∨ 85 < q → L8 0 q = L 0 q := fun q hq => by rw [g1.2.2.2 q (by omega), d1.2.2.2 q (by omega), fL0 q hq]
    have L864 : L8 0 64 = lI (VW m o 0 200000 0 0) := by rw [g1.2.2.2 64 (by decide), d1.2.2.2 64 (by decide)]; exact l64'
    have J8c : ∀ c, c ≠ 0 → c < 44 ∨ 47 < c → J8 c = J c := fun c c1 c2 => by rw [g1.1 c c1, j_up_cell _ c1, d1.1 c c1, j_up_cell _ c1, j_up_cell _ c1, fJ4 c c1 c2]
    refine ⟨_, _, ?_, ?_, Or.inr (Or.inr ⟨q1, c, b, hc, hb, ?_, ?_, ?_, ?_, ?_, ?_, ?_, ?_⟩), ⟨fun k k1 k2 => ?_, fun q q1 q2 q3 q4 q5 => ?_, fun k k1 k2 => ?_, fun q hq => ?_⟩, rfl⟩
    · obtain ⟨s1, s2, s3, s4, s5, s7⟩ := own J8 66 (vI (seaL m o (WT m o) b c)) (by decide) L8 R8
      exact ⟨s1, s2, s3, s4, s5, by rw [j_up_nq _ (Or.inl (by decide)), j_up_nq _ (Or.inl (by decide)), j_up_nq _ (Or.inl (by decide)), j_up_nq _ (Or.inr (by decide))]; exact s7⟩
    · rw [j_up_nq _ (Or.inl (by decide)), j_up_nq _ (Or.inl (by decide)), j_up_nq _ (Or.inl (by decide)), j_up_nq _ (Or.inr (by decide))]; exact L864
    · rw [j_up_nq _ (Or.inr (by decide)), J86 60 (by decide)]; rfl
    · rw [j_up_eq]
    · rw [j_up_nq _ (Or.inr (by decide)), J86 67 (by decide)]; rfl
    · rw [j_up_nq _ (Or.inr (by decide)), J86 68 (by decide)]; rfl
    · rw [j_up_nq _ (Or.inl (by decide)), j_up_nq _ (Or.inl (by decide)), j_up_nq _ (Or.inl (by decide)), j_up_eq]
    · rw [j_up_nq _ (Or.inr (by decide)), j_up_nq _ (Or.inr (by decide)), j_up_eq]; rfl
    · rw [j_up_nq _ (Or.inr (by decide)), j_up_eq]; rfl
    · rw [j_up_eq]; rfl
    · rw [j_up_cell _ k1]; exact J8c k k1 k2
    · rw [j_up_nq _ (Or.inr q2), J86 q q5, if_neg q3, if_neg q4, if_neg q1]
    · rw [j_up_cell _ k2, j_up_cell _ k2, j_up_cell _ k2, j_up_cell _ k1]; exact L8c k k1
    · rw [j_up_nq _ (Or.inl (by decide)), j_up_nq _ (Or.inl (by decide)), j_up_nq _ (Or.inl (by decide)), j_up_nq _ (Or.inr (by omega))]; exact L80 q hq
end SEBH
