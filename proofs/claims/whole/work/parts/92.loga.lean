/-! LOG: bytes and numbers in both -/
section LOGA
variable {d e : Nat} {L L' : Nat → Nat → Int64} {pa pb pu pw : Option Nat}
/-- the byte i of an int, as it is kept -/
def bW (v : Int32) (i : Nat) : Int32 := vp_nar .byte ((v >>> ((8 * nI i) &&& 31)).toInt8.toInt32)
theorem m255 : ∀ i, i < 32 → (255 : Int32).toBitVec.getLsbD i = decide (i < 8) := by decide +kernel
theorem sh8_bit (a b : Int32) {i : Nat} (hi : i < 32) : ((a <<< ((8 : Int32) &&& 31)) ||| (b &&& 255)).toBitVec.getLsbD i = if i < 8 then b.toBitVec.getLsbD i else a.toBitVec.getLsbD (i - 8) := by
  have e8 : ((8 : Int32) &&& 31).toBitVec.smod 32 = 8#32 := by decide
  rw [Int32.toBitVec_or, BitVec.getLsbD_or, Int32.toBitVec_and, BitVec.getLsbD_and, m255 i hi, Int32.toBitVec_shiftLeft, e8]
  rw [BitVec.shiftLeft_eq', BitVec.getLsbD_shiftLeft]
  by_cases q : i < 8
  · rw [if_pos q]
    simp [q]
  · rw [if_neg q]
    simp [q, hi]
theorem bW_bit : ∀ (v : Int32) (k i : Nat), k ≤ 3 → i < 8 → (bW v k).toBitVec.getLsbD i = v.toBitVec.getLsbD (8 * k + i) := by
  intro v k i hk hi
  have key : ∀ x : Int32, (vp_nar .byte x.toInt8.toInt32).toBitVec.getLsbD i = x.toBitVec.getLsbD i := by
    intro x
    show (x.toInt8.toInt32.toInt8.toInt32).toBitVec.getLsbD i = _
    rw [Int8.toInt8_toInt32, Int8.toBitVec_toInt32, BitVec.getLsbD_signExtend, Int32.toBitVec_toInt8, BitVec.getLsbD_signExtend]
    simp [hi, show i < 32 by omega]
  unfold bW
  rw [key, show 8 * nI k = nI (8 * k) from nI_mul 8 k, Int32.toBitVec_shiftRight, BitVec.sshiftRight_eq', sh_31 (8 * k) (by omega), BitVec.getLsbD_sshiftRight]
  rw [if_pos (by omega)]
  simp [show i < 32 by omega]
/-- the number that bytes from a place on spell -/
def nmV (F : Nat → Int32) (at_ : Nat) : Nat → Int32
  | 0 => 0
  | k + 1 => (nmV F at_ k <<< ((8 : Int32) &&& 31)) ||| (F (at_ + k) &&& 255)
theorem nmV_cg {F G : Nat → Int32} {a : Nat} : ∀ {k : Nat}, (∀ j, j < k → F (a + j) = G (a + j)) → nmV F a k = nmV G a k := by
  intro k
  induction k with
  | zero => intro _; rfl
  | succ k ih =>
    intro h
    unfold nmV
    rw [ih (fun j hj => h j (by omega)), h k (by omega)]
theorem nmV_4 {F : Nat → Int32} {a : Nat} {v : Int32} (h : ∀ j, j < 4 → F (a + j) = bW v (3 - j)) : nmV F a 4 = v := by
  apply Int32.toBitVec_inj.mp
  apply BitVec.eq_of_getLsbD_eq
  intro i hi
  show ((nmV F a 3 <<< ((8 : Int32) &&& 31)) ||| (F (a + 3) &&& 255)).toBitVec.getLsbD i = _
  rw [sh8_bit _ _ hi]
  by_cases q0 : i < 8
  · rw [if_pos q0, h 3 (by decide), bW_bit v 0 i (by decide) q0]
    congr 1
    omega
  rw [if_neg q0]
  show ((nmV F a 2 <<< ((8 : Int32) &&& 31)) ||| (F (a + 2) &&& 255)).toBitVec.getLsbD (i - 8) = _
  rw [sh8_bit _ _ (by omega)]
  by_cases q1 : i - 8 < 8
  · rw [if_pos q1, h 2 (by decide), bW_bit v 1 (i - 8) (by decide) q1]
    congr 1
    omega
  rw [if_neg q1]
  show ((nmV F a 1 <<< ((8 : Int32) &&& 31)) ||| (F (a + 1) &&& 255)).toBitVec.getLsbD (i - 8 - 8) = _
  rw [sh8_bit _ _ (by omega)]
  by_cases q2 : i - 8 - 8 < 8
  · rw [if_pos q2, h 1 (by decide), bW_bit v 2 (i - 8 - 8) (by decide) q2]
    congr 1
    omega
  rw [if_neg q2]
  show ((nmV F a 0 <<< ((8 : Int32) &&& 31)) ||| (F (a + 0) &&& 255)).toBitVec.getLsbD (i - 8 - 8 - 8) = _
  rw [sh8_bit _ _ (by omega), if_pos (by omega), h 0 (by decide), bW_bit v 3 (i - 8 - 8 - 8) (by decide) (by omega)]
  congr 1
  omega
theorem nmV_2 {F : Nat → Int32} {a x : Nat} (hx : x < 65536) (h : ∀ j, j < 2 → F (a + j) = bW (nI x) (1 - j)) : nmV F a 2 = nI x := by
  apply Int32.toBitVec_inj.mp
  apply BitVec.eq_of_getLsbD_eq
  intro i hi
  show ((nmV F a 1 <<< ((8 : Int32) &&& 31)) ||| (F (a + 1) &&& 255)).toBitVec.getLsbD i = _
  rw [sh8_bit _ _ hi]
  by_cases q0 : i < 8
  · rw [if_pos q0, h 1 (by decide), bW_bit _ 0 i (by decide) q0]
    congr 1
    omega
  rw [if_neg q0]
  show ((nmV F a 0 <<< ((8 : Int32) &&& 31)) ||| (F (a + 0) &&& 255)).toBitVec.getLsbD (i - 8) = _
  rw [sh8_bit _ _ (by omega)]
  by_cases q1 : i - 8 < 8
  · rw [if_pos q1, h 0 (by decide), bW_bit _ 1 (i - 8) (by decide) q1]
    congr 1
    omega
  · rw [if_neg q1]
    show (0 : Int32).toBitVec.getLsbD (i - 8 - 8) = _
    rw [(i_eq0 0).mp rfl _ (by omega), nI_bv, BitVec.getLsbD_ofNat, Nat.testBit_lt_two_pow (Nat.lt_of_lt_of_le (show x < 2 ^ 16 by omega) (Nat.pow_le_pow_right (by decide) (by omega))), Bool.and_false]
/-- the log of both: n bytes, F -/
def lgR (n : Nat) (F : Nat → Int32) (I J : Nat → Nat → Int32) : Prop := n ≤ 40000 ∧ I 23 1 = nI n ∧ J 0 17 = nI n ∧ ∀ i, i < n → I 24 i = F i ∧ J 16 i = F i
theorem num_c {I J : Nat → Nat → Int32} {n a k : Nat} {F : Nat → Int32} (h : lgR n F I J) (ha : a + k ≤ n) : jv (d + 1) 41 0 [some (.ref 23), some (.int (nI a)), some (.int (nI k)), none, none] [] (shC, I, L, pX pa pb pu pw) = some (some (.int (nmV F a k)), (shC, I, L, pX pa pb pu pw)) := by
  obtain ⟨h1, h2, h3, h4⟩ := h
  have key := j_run (fun i => jv (d + 1) 41 5 [some (.ref 23), some (.int (nI a)), some (.int (nI k)), some (.int (nmV F a i)), some (.int (nI (a + i)))] [] (shC, I, L, pX pa pb pu pw)) k (fun i hi => by
    have by_ : jv d 38 0 [some (.ref 23), some (.int (nI (a + i)))] [] (shC, I, L, pX pa pb pu pw) = some (some (.int (F (a + i) &&& 255)), (shC, I, L, pX pa pb pu pw)) := by
      rw [B38_0, if_neg (nI_pos (by omega)), h2, if_pos (nI_lt (by omega) (by omega)), if_pos (j_in_nI (by omega) (by decide)), nI_clamp (by omega), (h4 (a + i) (by omega)).1, B38_26]
    rw [B41_5, nI_add, if_pos (nI_lt (by omega) (by omega)), jgo_some rfl by_]
    dsimp only [Option.toList_some, List.cons_append, List.nil_append]
    rw [B41_23, nI_1]
    rfl)
  rw [B41_0]
  refine (show _ = _ from key).trans ?_
  rw [B41_5, nI_add, if_neg (nI_nlt (Nat.le_refl _) (by omega))]
theorem num_r {I J : Nat → Nat → Int32} {n a k : Nat} {F : Nat → Int32} (h : lgR n F I J) (ha : a + k ≤ n) : jv e 232 0 [some (.ref 0), some (.int (nI a)), some (.int (nI k)), none, none] [] (shR, J, L', pR) = some (some (.int (nmV F a k)), (shR, J, L', pR)) := by
  obtain ⟨h1, h2, h3, h4⟩ := h
  have key := j_run (fun i => jv e 232 5 [some (.ref 0), some (.int (nI a)), some (.int (nI k)), some (.int (nmV F a i)), some (.int (nI i))] [] (shR, J, L', pR)) k (fun i hi => by
    rw [B232_5, if_pos (nI_lt hi (by omega)), nI_add, if_pos (j_in_nI (by omega) (by decide)), nI_clamp (by omega), (h4 (a + i) (by omega)).2, nI_1]
    rfl)
  rw [B232_0]
  refine (show _ = _ from key).trans ?_
  rw [B232_5, if_neg (nI_nlt (Nat.le_refl _) (by omega))]
/-- k bytes more -/
def adF (F : Nat → Int32) (n : Nat) (v : Int32) (k : Nat) (i : Nat) : Int32 := if n ≤ i ∧ i < n + k then bW v (k - 1 - (i - n)) else F i
def lgFr (I I' J J' : Nat → Nat → Int32) : Prop := (∀ c, c ≠ 24 → c ≠ 23 → I' c = I c) ∧ (∀ f, f ≠ 1 → I' 23 f = I 23 f) ∧ (∀ c, c ≠ 16 → c ≠ 0 → J' c = J c) ∧ ∀ g, g ≠ 17 → J' 0 g = J 0 g
theorem lgFr.rfl' (I J : Nat → Nat → Int32) : lgFr I I J J := ⟨fun _ _ _ => rfl, fun _ _ => rfl, fun _ _ _ => rfl, fun _ _ => rfl⟩
theorem lgFr.trans {I I' I'' J J' J'' : Nat → Nat → Int32} (h : lgFr I I' J J') (h' : lgFr I' I'' J' J'') : lgFr I I'' J J'' := ⟨fun c a b => (h'.1 c a b).trans (h.1 c a b), fun f a => (h'.2.1 f a).trans (h.2.1 f a), fun c a b => (h'.2.2.1 c a b).trans (h.2.2.1 c a b), fun g a => (h'.2.2.2 g a).trans (h.2.2.2 g a)⟩
theorem add_sim {I J : Nat → Nat → Int32} {n k : Nat} {F : Nat → Int32} (v : Int32) (h : lgR n F I J) (hk : k ≤ 4) (hn : n + k ≤ 40000) : ∃ I' J', lgR (n + k) (adF F n v k) I' J' ∧ lgFr I I' J J' ∧ jv d 40 0 [some (.ref 23), some (.int v), some (.int (nI k)), none] [] (shC, I, L, pX pa pb pu pw) = some (none, (shC, I', L, pX pa pb pu pw)) ∧ jv e 231 0 [some (.ref 0), some (.int v), some (.int (nI k)), none] [] (shR, J, L', pR) = some (none, (shR, J', L', pR)) := by
  have lv : ∀ i, i < k → (if i < k then nI (k - 1 - i) else -1) + (-1) = if i + 1 < k then nI (k - 1 - (i + 1)) else -1 := by
    intro i hi
    rw [if_pos hi]
    by_cases q : i + 1 < k
    · rw [if_pos q, nI_dec (by omega), show k - 1 - i - 1 = k - 1 - (i + 1) by omega]
    · rw [if_neg q, show k - 1 - i = 0 by omega]
      rfl
  obtain ⟨⟨I', J'⟩, ⟨a1, a2⟩, a3, a4⟩ := j_run2 (α := (Nat → Nat → Int32) × (Nat → Nat → Int32)) (fun i t => jv d 40 4 [some (.ref 23), some (.int v), some (.int (nI k)), some (.int (if i < k then nI (k - 1 - i) else -1))] [] (shC, t.1, L, pX pa pb pu pw)) (fun i t => jv e 231 4 [some (.ref 0), some (.int v), some (.int (nI k)), some (.int (if i < k then nI (k - 1 - i) else -1))] [] (shR, t.2, L', pR)) (fun i t => lgFr I t.1 J t.2 ∧ lgR (n + i) (fun j => if n ≤ j ∧ j < n + i then bW v (k - 1 - (j - n)) else F j) t.1 t.2) k (fun i hi t ht => by
    obtain ⟨I1, J1⟩ := t
    obtain ⟨b1, c1, c2, c3, c4⟩ := ht
    dsimp only at b1 c1 c2 c3 c4 ⊢
    have fr1 : lgFr I1 (j_up (j_up I1 24 (n + i) (bW v (k - 1 - i))) 23 1 (nI (n + i + 1))) J1 (j_up (j_up J1 16 (n + i) (bW v (k - 1 - i))) 0 17 (nI (n + i + 1))) := ⟨fun c x y => by rw [j_up_cell _ y, j_up_cell _ x], fun f x => by rw [j_up_own, if_neg x, j_up_cell _ (by decide)], fun c x y => by rw [j_up_cell _ y, j_up_cell _ x], fun g x => by rw [j_up_own, if_neg x, j_up_cell _ (by decide)]⟩
    refine ⟨(j_up (j_up I1 24 (n + i) (bW v (k - 1 - i))) 23 1 (nI (n + i + 1)), j_up (j_up J1 16 (n + i) (bW v (k - 1 - i))) 0 17 (nI (n + i + 1))), ⟨b1.trans fr1, by omega, by dsimp only; rw [j_up_self]; rfl, by dsimp only; rw [j_up_self]; rfl, fun j hj => ?_⟩, ?_, ?_⟩
    · dsimp only
      rw [j_up_cell _ (by decide), j_up_own, j_up_cell _ (by decide), j_up_own]
      by_cases q : j = n + i
      · rw [if_pos q, if_pos q, if_pos (by omega), show j - n = i by omega]
        exact ⟨rfl, rfl⟩
      · rw [if_neg q, if_neg q]
        have := c4 j (by omega)
        by_cases q2 : n ≤ j ∧ j < n + i
        · rw [if_pos q2] at this
          rw [if_pos (by omega)]
          exact this
        · rw [if_neg q2] at this
          rw [if_neg (by omega)]
          exact this
    · dsimp only
      rw [B40_4, lv i hi, if_pos hi, if_neg (nI_pos (by omega)), c2, if_pos (show nI (n + i) < 40000 from nI_lt (b := 40000) (by omega) (by decide)), if_pos (j_in_nI (by omega) (by decide)), nI_clamp (n := n + i) (by omega), j_up_cell _ (by decide : 23 ≠ 24), c2, nI_1]
      rfl
    · dsimp only
      rw [B231_4, lv i hi, if_pos hi, if_neg (nI_pos (by omega)), c3, if_pos (j_in_nI (by omega) (by decide)), nI_clamp (n := n + i) (by omega), j_up_cell _ (by decide : 0 ≠ 16), c3, nI_1]
      rfl) (I, J) ⟨lgFr.rfl' I J, h.1, h.2.1, h.2.2.1, fun j hj => by dsimp only; rw [if_neg (by omega)]; exact h.2.2.2 j hj⟩
  dsimp only at a1 a2 a3 a4
  have st : nI k - 1 = if 0 < k then nI (k - 1 - 0) else -1 := by
    by_cases q : 0 < k
    · rw [if_pos q, show nI k - 1 = nI (k - 1) from nI_sub (b := 1) (by omega), Nat.sub_zero]
    · rw [if_neg q, show k = 0 by omega]
      rfl
  refine ⟨I', J', a2, a1, ?_, ?_⟩
  · rw [B40_0, st]
    refine (show _ = _ from a3).trans ?_
    rw [B40_4, if_neg (Nat.lt_irrefl _), if_pos (by decide), B40_49]
  · rw [B231_0, st]
    refine (show _ = _ from a4).trans ?_
    rw [B231_4, if_neg (Nat.lt_irrefl _), if_pos (by decide)]
end LOGA
