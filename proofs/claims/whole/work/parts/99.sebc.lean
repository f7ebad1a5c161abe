/-! SEA: what doesn't depend on the plane, first one -/
section SEBC
variable {d e : Nat} {I J : Nat → Nat → Int32} {L L' : Nat → Nat → Int64} {pa pb pu pw : Option Nat} {m : Nat → Int32} {o : Nat}
theorem j_up_nq {α : Type} (f : Nat → Nat → α) {a k c j : Nat} (h : c ≠ a ∨ j ≠ k) (v : α) : j_up f a k v c j = f c j := by
  by_cases z : c = a
  · subst z; rw [j_up_own, if_neg (h.resolve_left (fun y => y rfl))]
  · rw [j_up_cell _ z]
theorem j_up_eq {α : Type} (f : Nat → Nat → α) (a k : Nat) (v : α) : j_up f a k v a k = v := by rw [j_up_own, if_pos rfl]
theorem sh1_b : ∀ u, u < 17 → ∀ i, i < 17 → ((1 : Int32) <<< (nI u &&& 31)).toBitVec.getLsbD i = decide (i = u) := by decide
/-- the sea's set -/
theorem set_sea {o q : Nat} (ho : o < 65536) (hq : q < 17) : ((((1 : Int32) ||| (nI o <<< ((1 : Int32) &&& 31))) >>> (nI q &&& 31)) &&& 1) = 0 ↔ sbO o q = false := by
  have e1 : nI o <<< ((1 : Int32) &&& 31) = nI (2 * o) := by
    apply Int32.toBitVec_inj.mp
    rw [Int32.toBitVec_shiftLeft, show (((1 : Int32) &&& 31).toBitVec.smod 32) = 1#32 by decide]
    have h1 : (nI o).toBitVec = BitVec.ofNat 32 o := by first | rfl | exact BitVec.ofInt_natCast 32 o
    have h2 : (nI (2 * o)).toBitVec = BitVec.ofNat 32 (2 * o) := by first | rfl | exact BitVec.ofInt_natCast 32 (2 * o)
    rw [h1, h2]
    apply BitVec.eq_of_toNat_eq
    simp [BitVec.toNat_shiftLeft, Nat.shiftLeft_eq]
    omega
  have e2 : (1 : Int32) ||| nI (2 * o) = nI (2 * o + 1) := by
    apply Int32.toBitVec_inj.mp
    rw [Int32.toBitVec_or]
    apply BitVec.eq_of_getLsbD_eq
    intro i hi
    rw [BitVec.getLsbD_or, show (1 : Int32) = nI 1 from rfl, nI_bit (by omega), nI_bit (by omega), nI_bit (by omega)]
    cases i with
    | zero => simp
    | succ i => rw [Nat.testBit_succ, Nat.testBit_succ, Nat.testBit_succ, show (2 * o + 1) / 2 = o by omega, show 2 * o / 2 = o by omega]; simp
  rw [e1, e2, bit_0 (by omega)]
  rfl
/-- a single block's set -/
theorem set_one {p q : Nat} (hp : p < 16) (hq : q < 17) : ((((1 : Int32) <<< (nI (p + 1) &&& 31)) >>> (nI q &&& 31)) &&& 1) = 0 ↔ sb1 p q = false := by
  rw [i_shr _ (by omega), sh1_b (p + 1) (by omega) q hq]
  rfl
/-- the latest levels are levels -/
def nearK (I : Nat → Nat → Int32) : Prop := ∀ q, q < 17 → ∃ z, I 82 q = vI z ∧ -100000 ≤ z ∧ z ≤ 200000
/-- the first one with all worked out for the spaces open -/
def seaC (m : Nat → Int32) (o : Nat) (I J : Nat → Nat → Int32) (L : Nat → Nat → Int64) : Prop := (mQ m I J ∧ (∀ p, p < 16 → spR m p) ∧ opKd m o ∧ o < 65536) ∧ hlE m I ∧ (∀ k, k < 17 → I 81 k = vI (hBt m o k)) ∧ nearK I ∧ I 60 4 = nI o ∧ (∀ p, p < 16 → (I 60 5).toBitVec.getLsbD p = decide (hasL m o p)) ∧ L 60 7 = lI (WT m o) ∧ (L 63 0 = lI (fW m 1) ∧ L 63 1 = lI (fW m 2) ∧ L 63 2 = lI (fW m 3)) ∧ (∀ p, p < 16 → L 65 p = lI (64 * mv m (400 + p * 2)) ∧ L 66 p = lI (mv m (401 + p * 2))) ∧ L 62 0 = lI (2048 * mv m 0 * mv m 0) ∧ L 62 1 = lI (2048 * mv m 1 * mv m 1)
def wtL (L L' : Nat → Nat → Int64) (A X Y Z : Int) : Prop := L' 60 7 = lI A ∧ (L' 63 0 = lI X ∧ L' 63 1 = lI Y ∧ L' 63 2 = lI Z) ∧ (∀ c, c ≠ 60 → c ≠ 63 → L' c = L c) ∧ ∀ j, j ≠ 7 → L' 60 j = L 60 j
theorem lwt_c (h : mQ m I J) : ∀ (r k : Nat) (L1 : Nat → Nat → Int64) (A X Y Z : Int) (o2 o3 o4 : Option Value), k + r = 24 → wtL L L1 A X Y Z → ∃ L2 p2 p3 p4, wtL L L2 (A + sZ (gWt m 0) k r) (X + sZ (gWt m 1) k r) (Y + sZ (gWt m 2) k r) (Z + sZ (gWt m 3) k r) ∧ jv (d + 1) 103 25 [some (.ref 60), some (.int (nI k)), o2, o3, o4] [] (shC, I, L1, pX pa pb pu pw) = jv (d + 1) 103 183 [some (.ref 60), some (.int (nI 0)), p2, p3, p4] [] (shC, j_up I 60 5 0, L2, pX pa pb pu pw) := by
  intro r
  induction r with
  | zero =>
    intro k L1 A X Y Z o2 o3 o4 hk hw
    refine ⟨L1, o2, o3, o4, ?_, ?_⟩
    · show wtL L L1 (A + 0) (X + 0) (Y + 0) (Z + 0)
      rw [Int.add_zero, Int.add_zero, Int.add_zero, Int.add_zero]; exact hw
    · rw [B103_25, if_pos (by decide), show z_0.getD (3 : Int32).toNatClampNeg 0 = nI 24 from rfl, if_neg (nI_nlt (by omega) (by omega))]; rfl
  | succ r ih =>
    intro k L1 A X Y Z o2 o3 o4 hk hw
    have hk24 : k < 24 := by omega
    obtain ⟨w, f1, f2, f4, w1, b1, b2, b4, n0, n1, n2, n4⟩ := h.wt hk24
    have v0 : (nI w).toInt64 = lI (mv m (280 + k * 5)) := by rw [← n0, m64]
    have slice : ∀ (r s : Nat) (L1 : Nat → Nat → Int64) (A X Y Z : Int), 0 < w → s ≤ 16 → r = f2 + 1 - s → wtL L L1 A X Y Z → ∃ L2 s', wtL L L2 (A + sZ (fWt m 0 k) s r) (X + sZ (fWt m 1 k) s r) (Y + sZ (fWt m 2 k) s r) (Z + sZ (fWt m 3 k) s r) ∧ jv (d + 1) 103 62 [some (.ref 60), some (.int (nI k)), some (.long (lI (1024 * mv m (280 + k * 5)))), none, some (.int (nI s))] [] (shC, I, L1, pX pa pb pu pw) = jv (d + 1) 103 170 [some (.ref 60), some (.int (nI k)), some (.long (lI (1024 * mv m (280 + k * 5)))), none, some (.int s')] [] (shC, I, L2, pX pa pb pu pw) := by
      intro r
      induction r with
      | zero =>
        intro s L1 A X Y Z w0 hs hr hw
        refine ⟨L1, nI s, ?_, ?_⟩
        · show wtL L L1 (A + 0) (X + 0) (Y + 0) (Z + 0)
          rw [Int.add_zero, Int.add_zero, Int.add_zero, Int.add_zero]; exact hw
        · rw [B103_62, if_pos ((lc0 _).mpr (by rw [lI_toInt (by rw [mv_n n0 (by omega)]; omega) (by rw [mv_n n0 (by omega)]; omega), mv_n n0 (by omega)]; omega)), g_of1_3_2 hk24, h.1 _ (by omega), n2]
          dsimp only [Option.toList_some, List.cons_append, List.nil_append]
          rw [B103_80, if_pos (nI_lt (by omega) (by omega))]
      | succ r ih =>
        intro s L1 A X Y Z w0 hs hr hw
        obtain ⟨y1, ⟨y2, y3, y4⟩, y5, y6⟩ := hw
        rw [B103_62, if_pos ((lc0 _).mpr (by rw [lI_toInt (by rw [mv_n n0 (by omega)]; omega) (by rw [mv_n n0 (by omega)]; omega), mv_n n0 (by omega)]; omega)), g_of1_3_2 hk24, h.1 _ (by omega), n2]
        dsimp only [Option.toList_some, List.cons_append, List.nil_append]
        rw [B103_80, if_neg (nI_nlt (by omega) (by omega)), if_pos (by decide), if_pos (by decide), if_pos (by decide), g_of1_3_3 hk24, h.1 _ (by omega), d64 (show s < 16 by omega)]
        dsimp only [Option.toList_some, List.cons_append, List.nil_append]
        rw [B103_130, if_pos (by decide), if_pos (by decide), g_of1_3_4 hk24, h.1 _ (by omega)]
        dsimp only [Option.toList_some, List.cons_append, List.nil_append]
        rw [B103_160, if_pos (by decide), nI_1, m64 m (283 + k * 5), m64 m (284 + k * 5), show (2 : Int64) = lI 2 from rfl, show (64 : Int64) = lI 64 from rfl]
        simp (decide := true) only [j_up_app, ↓reduceIte, show (0 : Int32).toNatClampNeg = 0 from rfl, show (1 : Int32).toNatClampNeg = 1 from rfl, show (2 : Int32).toNatClampNeg = 2 from rfl, y1, y2, y3, y4, lI_mul, lI_add]
        rw [sZ_front, sZ_front, sZ_front, sZ_front, ← Int.add_assoc, ← Int.add_assoc, ← Int.add_assoc, ← Int.add_assoc]
        refine ih (s + 1) _ _ _ _ _ w0 (by omega) (by omega) ⟨?_, ⟨?_, ?_, ?_⟩, fun c c1 c2 => ?_, fun j hj => ?_⟩
        · simp (decide := true) only [j_up_app, ↓reduceIte]; rfl
        · simp (decide := true) only [j_up_app, ↓reduceIte]; rfl
        · simp (decide := true) only [j_up_app, ↓reduceIte]; rfl
        · simp (decide := true) only [j_up_app, ↓reduceIte]
          unfold fWt
          rw [if_neg (by decide), if_neg (by decide), if_neg (by decide), Int.mul_assoc (1024 * mv m (280 + k * 5)) 2 64]
          rfl
        · rw [j_up_cell _ c2, j_up_cell _ c2, j_up_cell _ c2, j_up_cell _ c1]; exact y5 c c1 c2
        · rw [j_up_cell _ (by decide), j_up_cell _ (by decide), j_up_cell _ (by decide), j_up_own, if_neg hj]; exact y6 j hj
    rw [B103_25, if_pos (by decide), show z_0.getD (3 : Int32).toNatClampNeg 0 = nI 24 from rfl, if_pos (nI_lt (by omega) (by omega)), g_of1_3_0 hk24, h.1 _ (by omega), n0]
    dsimp only [Option.toList_some, List.cons_append, List.nil_append]
    rw [B103_47, g_of1_3_1 hk24, h.1 _ (by omega), n1, v0, show (1024 : Int64) = lI 1024 from rfl, lI_mul]
    dsimp only [Option.toList_some, List.cons_append, List.nil_append]
    rw [B103_60, sZ_front, sZ_front, sZ_front, sZ_front, ← Int.add_assoc, ← Int.add_assoc, ← Int.add_assoc, ← Int.add_assoc]
    by_cases w0 : 0 < w
    · have en : ∀ u, gWt m u k = sZ (fWt m u k) f1 (f2 + 1 - f1) := fun u => by
        unfold gWt nWt
        rw [mv_n n0 (by omega), if_pos (show (0 : Int) < w by omega), mN_n n1 (by omega), mN_n n2 (by omega)]
      obtain ⟨L2, s', q1, q2⟩ := slice (f2 + 1 - f1) f1 L1 A X Y Z w0 (by omega) rfl hw
      rw [q2, B103_170, nI_1, en, en, en, en]
      exact ih (k + 1) _ _ _ _ _ _ _ _ (by omega) q1
    · have en : ∀ u, gWt m u k = 0 := fun u => by
        unfold gWt nWt
        rw [mv_n n0 (by omega), if_neg (show ¬ (0 : Int) < w by omega)]
        rfl
      rw [B103_62, if_neg (fun y => by
        have := (lc0 _).mp y
        rw [lI_toInt (by rw [mv_n n0 (by omega)]; omega) (by rw [mv_n n0 (by omega)]; omega), mv_n n0 (by omega)] at this
        omega), B103_170, nI_1, en, en, en, en, Int.add_zero, Int.add_zero, Int.add_zero, Int.add_zero]
      exact ih (k + 1) _ _ _ _ _ _ _ _ (by omega) hw
/-- the fills so far -/
def flL (m : Nat → Int32) (o p : Nat) (I I' : Nat → Nat → Int32) (L L' : Nat → Nat → Int64) (A : Int) : Prop := (∀ i, i < 16 → (I' 60 5).toBitVec.getLsbD i = decide (i < p ∧ hasL m o i)) ∧ (∀ q, q < p → I' 81 (q + 1) = vI (hBt m o (q + 1)) ∧ L' 65 q = lI (64 * mv m (400 + q * 2)) ∧ L' 66 q = lI (mv m (401 + q * 2))) ∧ L' 60 7 = lI A ∧ (∀ c, c ≠ 60 → c ≠ 81 → I' c = I c) ∧ (∀ j, j ≠ 5 → I' 60 j = I 60 j) ∧ I' 81 0 = I 81 0 ∧ (∀ c, c ≠ 60 → c ≠ 65 → c ≠ 66 → L' c = L c) ∧ ∀ j, j ≠ 7 → L' 60 j = L 60 j
theorem lfl_c (h : mQ m I J) (ho : I 60 4 = nI o) : ∀ (r p : Nat) (I1 : Nat → Nat → Int32) (L1 : Nat → Nat → Int64) (A : Int) (o2 o3 o4 : Option Value), p + r = 16 → flL m o p I I1 L L1 A → ∃ I2 L2 p2 p3 p4, flL m o 16 I I2 L L2 (A + sZ (gWT m o) p r) ∧ jv (d + 1) 103 183 [some (.ref 60), some (.int (nI p)), o2, o3, o4] [] (shC, I1, L1, pX pa pb pu pw) = jv (d + 1) 103 334 [some (.ref 60), some (.int (nI 0)), p2, p3, p4] [] (shC, I2, L2, pX pa pb pu pw) := by
  intro r
  induction r with
  | zero =>
    intro p I1 L1 A o2 o3 o4 hp hf
    have : p = 16 := by omega
    subst this
    refine ⟨I1, L1, o2, o3, o4, ?_, ?_⟩
    · show flL m o 16 I I1 L L1 (A + 0)
      rw [Int.add_zero]; exact hf
    · rw [B103_183, if_neg (by decide)]; rfl
  | succ r ih =>
    intro p I1 L1 A o2 o3 o4 hp hf
    have hp16 : p < 16 := by omega
    obtain ⟨x, y, x1, y1, n0, n1⟩ := h.fill hp16
    obtain ⟨a1, a2, a3, a4, a5, a6, a7, a8⟩ := hf
    have hm1 : ∀ {I2 : Nat → Nat → Int32}, I2 2 = I1 2 → ∀ q, q < 1189 → I2 2 q = m q := fun z q hq => by rw [z, a4 2 (by decide) (by decide)]; exact h.1 q hq
    have jp : j_in (nI p) 16 = true := j_in_nI hp16 (by decide)
    have jp1 : j_in (nI (p + 1)) 17 = true := j_in_nI (by omega) (by decide)
    have cp : (nI p).toNatClampNeg = p := nI_clamp (by omega)
    have cp1 : (nI (p + 1)).toNatClampNeg = p + 1 := nI_clamp (by omega)
    have ob : I1 60 4 = nI o := by rw [a5 4 (by decide)]; exact ho
    -- what is the same whether the space is open or not
    have tail : ∀ (t : Nat) (bt : Int), (t = 0 ↔ o.testBit p = false) → t ≤ 1 → bt = hBt m o (p + 1) → ∃ I2 L2 p2 p3 p4, flL m o 16 I I2 L L2 (A + sZ (gWT m o) p (r + 1)) ∧ jv (d + 1) 103 238 [some (.ref 60), some (.int (nI p)), some (.int (nI t)), o3, o4] [.int (vI bt), .int (nI (p + 1)), .ref 81] (shC, I1, L1, pX pa pb pu pw) = jv (d + 1) 103 334 [some (.ref 60), some (.int (nI 0)), p2, p3, p4] [] (shC, I2, L2, pX pa pb pu pw) := by
      intro t bt ht t1 hbt
      rw [B103_238, if_pos jp1, cp1, g_of1_4_0 hp16, j_up_cell _ (by decide), hm1 rfl _ (by omega)]
      dsimp only [Option.toList_some, List.cons_append, List.nil_append]
      rw [B103_257, if_pos jp, cp, g_of1_4_1 hp16, j_up_cell _ (by decide), hm1 rfl _ (by omega), m64, show (64 : Int64) = lI 64 from rfl, lI_mul]
      dsimp only [Option.toList_some, List.cons_append, List.nil_append]
      rw [B103_275, if_pos jp, m64]
      simp (decide := true) only [cp, j_up_app, ↓reduceIte]
      have lx : (0 : Int32) < lg_cmp (lI (64 * mv m (400 + p * 2))) 0 ↔ 0 < mv m (400 + p * 2) := by
        rw [lc0, mv_n n0 (by omega), lI_toInt (by omega) (by omega)]; omega
      -- the liquid's bit
      have go : ∀ (I2 : Nat → Nat → Int32) (L2 : Nat → Nat → Int64) (A' : Int), (∀ c j, (c ≠ 60 ∨ j ≠ 5) → (c ≠ 81 ∨ j ≠ p + 1) → I2 c j = I1 c j) → I2 81 (p + 1) = vI bt → (∀ i, i < 16 → (I2 60 5).toBitVec.getLsbD i = decide (i < p + 1 ∧ hasL m o i)) → (∀ c j, (c ≠ 60 ∨ j ≠ 7) → (c ≠ 65 ∨ j ≠ p) → (c ≠ 66 ∨ j ≠ p) → L2 c j = L1 c j) → L2 65 p = lI (64 * mv m (400 + p * 2)) → L2 66 p = lI (mv m (401 + p * 2)) → L2 60 7 = lI A' → flL m o (p + 1) I I2 L L2 A' := by
        intro I2 L2 A' i1 i2 i3 l1 l2 l3 l4
        refine ⟨i3, fun q hq => ?_, l4, fun c c1 c2 => ?_, fun j hj => ?_, ?_, fun c c1 c2 c3 => ?_, fun j hj => ?_⟩
        · by_cases w : q = p
          · subst w; exact ⟨by rw [i2, hbt], l2, l3⟩
          · obtain ⟨g1, g2, g3⟩ := a2 q (by omega)
            refine ⟨?_, ?_, ?_⟩
            · rw [i1 81 (q + 1) (Or.inl (by decide)) (Or.inr (by omega))]; exact g1
            · rw [l1 65 q (Or.inl (by decide)) (Or.inr w) (Or.inl (by decide))]; exact g2
            · rw [l1 66 q (Or.inl (by decide)) (Or.inl (by decide)) (Or.inr w)]; exact g3
        · funext j; rw [i1 c j (Or.inl c1) (Or.inl c2), a4 c c1 c2]
        · rw [i1 60 j (Or.inr hj) (Or.inl (by decide))]; exact a5 j hj
        · rw [i1 81 0 (Or.inl (by decide)) (Or.inr (by omega))]; exact a6
        · funext j; rw [l1 c j (Or.inl c1) (Or.inl c2) (Or.inl c3), a7 c c1 c2 c3]
        · rw [l1 60 j (Or.inr hj) (Or.inl (by decide)) (Or.inl (by decide))]; exact a8 j hj
      rw [sZ_front, ← Int.add_assoc]
      -- without a liquid
      have dry : ¬ hasL m o p → ∃ I2 L2 p2 p3 p4, flL m o 16 I I2 L L2 (A + gWT m o p + sZ (gWT m o) (p + 1) r) ∧ jv (d + 1) 103 326 [some (.ref 60), some (.int (nI p)), some (.int (nI t)), o3, o4] [] (shC, j_up I1 81 (p + 1) (vI bt), j_up (j_up L1 65 p (lI (64 * mv m (400 + p * 2)))) 66 p (lI (mv m (401 + p * 2))), pX pa pb pu pw) = jv (d + 1) 103 334 [some (.ref 60), some (.int (nI 0)), p2, p3, p4] [] (shC, I2, L2, pX pa pb pu pw) := by
        intro nl
        rw [B103_326, nI_1, show gWT m o p = 0 from if_neg nl, Int.add_zero]
        refine ih (p + 1) _ _ _ _ _ _ (by omega) (go _ _ _ (fun c j c1 c2 => by rw [j_up_nq _ c2]) (by rw [j_up_eq]) (fun i hi => ?_) (fun c j c1 c2 c3 => by rw [j_up_nq _ c3, j_up_nq _ c2]) (by rw [j_up_nq _ (Or.inl (by decide)), j_up_eq]) (by rw [j_up_eq]) (by rw [j_up_nq _ (Or.inl (by decide)), j_up_nq _ (Or.inl (by decide))]; exact a3))
        rw [j_up_nq _ (Or.inl (by decide)), a1 i hi]
        congr 1
        apply propext
        constructor
        · rintro ⟨q1, q2⟩; exact ⟨by omega, q2⟩
        · rintro ⟨q1, q2⟩
          refine ⟨?_, q2⟩
          by_cases w : i = p
          · subst w; exact absurd q2 nl
          · omega
      by_cases q0 : o.testBit p = false
      · have t0 : t = 0 := ht.mpr q0
        rw [if_pos (show nI t = 0 by rw [t0]; rfl), if_pos jp]
        by_cases q1 : 0 < mv m (400 + p * 2)
        · have hl : hasL m o p := ⟨q1, q0⟩
          rw [if_pos (lx.mpr q1), if_pos jp, if_pos jp, B103_326, nI_1, show gWT m o p = 64 * mv m (400 + p * 2) * mv m (401 + p * 2) from if_pos hl]
          refine ih (p + 1) _ _ _ _ _ _ (by omega) (go _ _ _ (fun c j c1 c2 => by rw [j_up_nq _ c1, j_up_nq _ c2]) (by rw [j_up_nq _ (Or.inl (by decide)), j_up_eq]) (fun i hi => ?_) (fun c j c1 c2 c3 => by rw [j_up_nq _ c1, j_up_nq _ c3, j_up_nq _ c2]) (by rw [j_up_nq _ (Or.inl (by decide)), j_up_nq _ (Or.inl (by decide)), j_up_eq]) (by rw [j_up_nq _ (Or.inl (by decide)), j_up_eq]) ?_)
          · rw [j_up_eq, Int32.toBitVec_or, BitVec.getLsbD_or, a1 i hi, sh1_b p (by omega) i (by omega)]
            by_cases w : i = p
            · subst w; simp [hl]
            · simp only [w, decide_false, Bool.or_false]
              congr 1
              apply propext
              constructor
              · rintro ⟨q1, q2⟩; exact ⟨by omega, q2⟩
              · rintro ⟨q1, q2⟩; exact ⟨by omega, q2⟩
          · rw [j_up_eq, a3, lI_mul, lI_add]
        · rw [if_neg (fun y => q1 (lx.mp y))]
          exact dry (fun y => q1 y.1)
      · rw [if_neg (show ¬ nI t = 0 from fun y => q0 (ht.mp ((nI_eq (b := 0) (by omega) (by decide)).mp y)))]
        exact dry (fun y => q0 y.2)
    rw [B103_183, if_pos (show nI p < 16 from nI_lt (b := 16) (by omega) (by decide)), ob]
    by_cases q0 : o.testBit p = false
    · rw [if_pos ((bit_0 (by omega)).mpr q0), B103_205, if_pos rfl, nI_1]
      have : (1 : Int) = hBt m o (p + 1) := by
        unfold hBt; rw [if_neg (by omega), Nat.add_sub_cancel, if_neg (by rw [q0]; decide)]
      exact tail 0 1 (by simp [q0]) (by omega) this
    · rw [if_neg (fun y => q0 ((bit_0 (by omega)).mp y)), B103_205, if_neg (show ¬ (1 : Int32) = 0 by decide), g_of1Q_2_7 hp16, hm1 rfl _ (by omega), nI_1]
      dsimp only [Option.toList_some, List.cons_append, List.nil_append]
      have q1 : o.testBit p = true := by simpa using q0
      have : mv m (159 + p * 8) - 16 = hBt m o (p + 1) := by
        unfold hBt; rw [if_neg (by omega), Nat.add_sub_cancel, if_pos q1]
      rw [B103_231, mv_v m (159 + p * 8), show (16 : Int32) = vI 16 from rfl, vI_sub]
      exact tail 1 _ (by simp [q1]) (by omega) this
theorem load_c (h : mQ m I J) (hr : ∀ p, p < 16 → spR m p) (hk : opKd m o) (o16 : o < 65536) (hE : hlE m I) (h81 : I 81 0 = 16) (hn : nearK I) (ho : I 60 4 = nI o) : ∃ I' L', seaC m o I' J L' ∧ L' 61 4 = lI (VW m o 0 200000 0 0) ∧ (∀ c, c ≠ 60 → c ≠ 81 → I' c = I c) ∧ (∀ j, j ≠ 5 → j ≠ 6 → I' 60 j = I 60 j) ∧ I' 60 6 = I 60 6 + 1 ∧ (∀ c, c < 60 ∨ 66 < c → c ≠ 72 → L' c = L c) ∧ (∀ j, j ≠ 7 → L' 60 j = L 60 j) ∧ (∀ j, j ≠ 4 → L' 61 j = L 61 j) ∧ L' 64 = L 64 ∧ jv (d + 2) 103 0 [some (.ref 60), none, none, none, none] [] (shC, I, L, pX pa pb pu pw) = some (none, (shC, I', L', pX pa pb pu pw)) := by
  generalize hI0 : j_up I 60 6 (I 60 6 + 1) = I0
  have f0 : ∀ c, c ≠ 60 → I0 c = I c := fun c hc => by rw [← hI0, j_up_cell _ hc]
  have f6 : ∀ j, j ≠ 6 → I0 60 j = I 60 j := fun j hj => by rw [← hI0, j_up_own, if_neg hj]
  have e6 : I0 60 6 = I 60 6 + 1 := by rw [← hI0, j_up_eq]
  generalize hL0 : va_up (j_up L 60 7 0) 63 (j_fillL (j_up L 60 7 0 63) (fun _ => 0) 3) = L0
  have hL0c : ∀ c, c ≠ 60 → c ≠ 63 → L0 c = L c := fun c c1 c2 => by rw [← hL0, va_up_ne _ _ c2, j_up_cell _ c1]
  have hL60 : ∀ j, L0 60 j = if j = 7 then 0 else L 60 j := fun j => by rw [← hL0, va_up_ne _ _ (by decide), j_up_own]
  have hL63 : ∀ j, j < 3 → L0 63 j = 0 := fun j hj => by rw [← hL0, va_up_at]; unfold j_fillL; rw [if_pos hj]
  have h0 : mQ m I0 J := h.fr (fun q _ => by rw [f0 2 (by decide)])
  obtain ⟨L1, p2, p3, p4, w1, r1⟩ := lwt_c (d := d + 1) (pa := pa) (pb := pb) (pu := pu) (pw := pw) (L := L0) h0 24 0 L0 0 0 0 0 none none none (by omega) ⟨by rw [hL60, if_pos rfl]; rfl, ⟨hL63 0 (by decide), hL63 1 (by decide), hL63 2 (by decide)⟩, fun _ _ _ => rfl, fun _ _ => rfl⟩
  obtain ⟨I2, L2, q2, q3, q4, w2, r2⟩ := lfl_c (d := d + 1) (pa := pa) (pb := pb) (pu := pu) (pw := pw) (L := L1) (I := I0) (o := o) h0 (by rw [f6 4 (by decide)]; exact ho) 16 0 (j_up I0 60 5 0) L1 _ p2 p3 p4 (by omega) ⟨fun i hi => by rw [j_up_eq]; simp, fun q hq => by omega, w1.1, fun c c1 c2 => by rw [j_up_cell _ c1], fun j hj => by rw [j_up_own, if_neg hj], by rw [j_up_cell _ (by decide)], fun _ _ _ _ => rfl, fun _ _ => rfl⟩
  obtain ⟨-, ⟨y2, y3, y4⟩, y5, y6⟩ := w1
  obtain ⟨a1, a2, a3, a4, a5, a6, a7, a8⟩ := w2
  rw [Int.zero_add] at y2 y3 y4 a3
  have h2 : mQ m I2 J := h0.fr (fun q _ => by rw [a4 2 (by decide) (by decide)])
  -- the scales
  generalize hL3 : j_up (j_up L2 62 0 (lI (2048 * mv m 0 * mv m 0))) 62 1 (lI (2048 * mv m 1 * mv m 1)) = L3
  have sc : ∃ s2 s3 s4, jv (d + 2) 103 334 [some (.ref 60), some (.int (nI 0)), q2, q3, q4] [] (shC, I2, L2, pX pa pb pu pw) = jv (d + 2) 103 334 [some (.ref 60), some (.int (nI 2)), s2, s3, s4] [] (shC, I2, L3, pX pa pb pu pw) := by
    refine ⟨some (.long (lI (mv m 1))), none, q4, ?_⟩
    rw [B103_334, if_neg (by decide), show nI 0 = (0 : Int32) from rfl, g_of1_0_0, h2.1 0 (by decide)]
    dsimp only [Option.toList_some, List.cons_append, List.nil_append]
    rw [B103_349, if_pos (by decide), B103_334, if_neg (by decide), show (0 : Int32) + 1 = 1 from rfl, g_of1_0_1, h2.1 1 (by decide)]
    dsimp only [Option.toList_some, List.cons_append, List.nil_append]
    rw [B103_349, if_pos (by decide), m64, m64, show (2048 : Int64) = lI 2048 from rfl, lI_mul, lI_mul, lI_mul, lI_mul, ← hL3]
    rfl
  obtain ⟨s2, s3, s4, sc⟩ := sc
  have hE2 : hlE m I2 := by
    refine ⟨fun i hi => ?_, fun k hk => ?_⟩
    · rw [a4 73 (by decide) (by decide), a4 74 (by decide) (by decide), f0 73 (by decide), f0 74 (by decide)]; exact hE.1 i hi
    · rw [a4 75 (by decide) (by decide), a4 76 (by decide) (by decide), a4 77 (by decide) (by decide), a4 78 (by decide) (by decide), a4 79 (by decide) (by decide), a4 80 (by decide) (by decide), f0 75 (by decide), f0 76 (by decide), f0 77 (by decide), f0 78 (by decide), f0 79 (by decide), f0 80 (by decide)]; exact hE.2 k hk
  have hB2 : ∀ k, k < 17 → I2 81 k = vI (hBt m o k) := by
    intro k hk
    by_cases z : k = 0
    · subst z; rw [a6, f0 81 (by decide), h81]; rfl
    · obtain ⟨q, rfl⟩ : ∃ q, k = q + 1 := ⟨k - 1, by omega⟩
      exact (a2 q (by omega)).1
  have hD2 := hE2.D h2 (bt := hBt m o) (fun k hk => ⟨hB2 k hk, hBt_b h2 o hk⟩)
  have o2 : I2 60 4 = nI o := by rw [a5 4 (by decide), f6 4 (by decide)]; exact ho
  have wg := weigh_c (d := d + 1) (L := L3) (pa := pa) (pb := pb) (pu := pu) (pw := pw) hD2 (a := 200000) (b := 0) (c := 0) (by omega) (by omega) (by omega) (t0 := 0) (t1 := 15) (by decide) (by decide) (l1 := (1 : Int32) ||| (nI o <<< ((1 : Int32) &&& 31))) (sb := sbO o) (fun q hq => set_sea o16 hq)
  have run : jv (d + 2) 103 0 [some (.ref 60), none, none, none, none] [] (shC, I, L, pX pa pb pu pw) = some (none, (shC, I2, j_up (hmL L3 (wB_ (sbO o) m (hBt m o) 200000 0 0 0 15 0) (wB_ (sbO o) m (hBt m o) 200000 0 0 0 15 1) (wB_ (sbO o) m (hBt m o) 200000 0 0 0 15 2) (wB_ (sbO o) m (hBt m o) 200000 0 0 0 15 3)) 61 4 (lI (VW m o 0 200000 0 0)), pX pa pb pu pw)) := by
    rw [B103_0, hI0, jgo_some (d := d + 1) rfl (fill_long (a := 63) (n := 3) rfl (by decide) 0 none none I0 (j_up L 60 7 0) _), hL0]
    dsimp only [Option.toList_some, Option.toList_none, List.cons_append, List.nil_append]
    rw [B103_23, show (0 : Int32) = nI 0 from rfl]
    refine Eq.trans r1 ?_
    refine Eq.trans r2 ?_
    refine Eq.trans sc ?_
    rw [B103_334, if_pos (by decide), jgo_some (d := d + 1) rfl (B104_0 _ _ _ _ _ _ _)]
    dsimp only [Option.toList_some, Option.toList_none, List.cons_append, List.nil_append]
    rw [B103_378, o2]
    refine Eq.trans (jgo_some (d := d + 1) rfl wg) ?_
    dsimp only [Option.toList_some, Option.toList_none, List.cons_append, List.nil_append]
    rw [B103_388, if_pos (by decide), hmL_own, if_neg (by decide), if_neg (by decide), if_neg (by decide), if_pos rfl, ← wB_V h2]
    rfl
  refine ⟨_, _, ?_, ?_, fun c c1 c2 => ?_, fun j j1 j2 => ?_, ?_, fun c c1 c2 => ?_, fun j hj => ?_, fun j hj => ?_, ?_, run⟩
  · have g : ∀ c, c ≠ 61 → c ≠ 72 → c ≠ 62 → j_up (hmL L3 (wB_ (sbO o) m (hBt m o) 200000 0 0 0 15 0) (wB_ (sbO o) m (hBt m o) 200000 0 0 0 15 1) (wB_ (sbO o) m (hBt m o) 200000 0 0 0 15 2) (wB_ (sbO o) m (hBt m o) 200000 0 0 0 15 3)) 61 4 (lI (VW m o 0 200000 0 0)) c = L2 c := fun c c1 c2 c3 => by
      rw [j_up_cell _ c1, hmL_c _ _ _ _ c2, ← hL3, j_up_cell _ c3, j_up_cell _ c3]
    refine ⟨⟨h2, hr, hk, o16⟩, hE2, hB2, fun q hq => ?_, o2, fun p hp => ?_, ?_, ⟨?_, ?_, ?_⟩, fun p hp => ?_, ?_, ?_⟩
    · rw [a4 82 (by decide) (by decide), f0 82 (by decide)]; exact hn q hq
    · rw [a1 p hp]; simp [hp]
    · rw [g 60 (by decide) (by decide) (by decide), a3]; rfl
    · rw [g 63 (by decide) (by decide) (by decide), a7 63 (by decide) (by decide) (by decide), y2]; rfl
    · rw [g 63 (by decide) (by decide) (by decide), a7 63 (by decide) (by decide) (by decide), y3]; rfl
    · rw [g 63 (by decide) (by decide) (by decide), a7 63 (by decide) (by decide) (by decide), y4]; rfl
    · rw [g 65 (by decide) (by decide) (by decide), g 66 (by decide) (by decide) (by decide)]
      exact (a2 p hp).2
    · rw [j_up_cell _ (by decide), hmL_c _ _ _ _ (by decide), ← hL3, j_up_own, if_neg (by decide), j_up_eq]
    · rw [j_up_cell _ (by decide), hmL_c _ _ _ _ (by decide), ← hL3, j_up_eq]
  · rw [j_up_eq]
  · rw [a4 c c1 c2, f0 c c1]
  · rw [a5 j j1, f6 j j2]
  · rw [a5 6 (by decide), e6]
  · rw [j_up_cell _ (by omega), hmL_c _ _ _ _ c2, ← hL3, j_up_cell _ (by omega), j_up_cell _ (by omega), a7 c (by omega) (by omega) (by omega), y5 c (by omega) (by omega), hL0c c (by omega) (by omega)]
  · rw [j_up_cell _ (by decide), hmL_c _ _ _ _ (by decide), ← hL3, j_up_cell _ (by decide), j_up_cell _ (by decide), a8 j hj, y6 j hj, hL60, if_neg hj]
  · rw [j_up_own, if_neg hj, hmL_c _ _ _ _ (by decide), ← hL3, j_up_cell _ (by decide), j_up_cell _ (by decide), a7 61 (by decide) (by decide) (by decide), y5 61 (by decide) (by decide), hL0c 61 (by decide) (by decide)]
  · rw [j_up_cell _ (by decide), hmL_c _ _ _ _ (by decide), ← hL3, j_up_cell _ (by decide), j_up_cell _ (by decide), a7 64 (by decide) (by decide) (by decide), y5 64 (by decide) (by decide), hL0c 64 (by decide) (by decide)]
end SEBC
