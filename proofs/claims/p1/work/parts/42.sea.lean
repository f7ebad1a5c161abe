/-! THE FIRST CALL: spaces of the sea -/
/-- which spaces there are, of the first i -/
def kv (I : Nat → Nat → Int32) : Nat → Int32
  | 0 => 0
  | i + 1 => kv I i ||| (if 0 < I 2 (152 + i * 8) then (1 : Int32) <<< (nI i &&& 31) else 0)
section KINDS
variable {d : Nat} {I : Nat → Nat → Int32} {L : Nat → Nat → Int64} {pa pb pu pw : Option Nat} {K : Option Value → jS → jO}
theorem kind_1 {i : Nat} (hi : i < 16) : jv (d + 1) 54 0 [some (.ref 1), some (.int (nI i))] [] (shC, I, L, pX pa pb pu pw) = some (some (.int (I 2 (152 + i * 8))), (shC, I, L, pX pa pb pu pw)) := by
  have g : ∀ K, jgo jTT jMM (d + 1) 51 [.ref 1, .int 2, .int (nI i), .int 0] (shC, I, L, pX pa pb pu pw) K = K (some (.int (I 2 (152 + i * 8)))) (shC, I, L, pX pa pb pu pw) := fun K => jgo_some rfl (of_1 (a := 2) (b := i) (c := 0) (by decide) hi (by decide) none)
  rw [B54_0_o1, if_neg (nI_pos (by omega)), if_pos (by decide), z0_2, if_pos (show nI i < (16 : Int32) from nI_lt hi (by decide)), g]
  dsimp only [Option.toList_some, List.cons_append, List.nil_append]
  rw [B54_20_o1, B54_24_o1]
theorem kinds_1 (o1 o2 : Option Value) : jv (d + 2) 55 0 [some (.ref 1), o1, o2] [] (shC, I, L, pX pa pb pu pw) = some (some (.int (kv I 16)), (shC, I, L, pX pa pb pu pw)) := by
  rw [B55_0_o1]
  have h := j_run (fun i => jv (d + 2) 55 4 [some (.ref 1), some (.int (kv I i)), some (.int (nI i))] [] (shC, I, L, pX pa pb pu pw)) 16 (fun i hi => by
    have g : ∀ K, jgo jTT jMM (d + 2) 54 [.ref 1, .int (nI i)] (shC, I, L, pX pa pb pu pw) K = K (some (.int (I 2 (152 + i * 8)))) (shC, I, L, pX pa pb pu pw) := fun K => jgo_some rfl (kind_1 hi)
    show jv (d + 2) 55 4 _ _ _ = jv (d + 2) 55 4 _ _ _
    rw [B55_4_o1, if_pos (by decide), z0_2, if_pos (show nI i < (16 : Int32) from nI_lt hi (by decide)), g]
    dsimp only [Option.toList_some, List.cons_append, List.nil_append]
    rw [B55_19_o1]
    by_cases h : 0 < I 2 (152 + i * 8)
    · rw [if_pos h, B55_29_o1, nI_1]
      show _ = jv (d + 2) 55 4 [_, some (.int (kv I i ||| (if 0 < I 2 (152 + i * 8) then (1 : Int32) <<< (nI i &&& 31) else 0))), _] _ _
      rw [if_pos h]
    · rw [if_neg h, B55_29_o1, nI_1]
      show _ = jv (d + 2) 55 4 [_, some (.int (kv I i ||| (if 0 < I 2 (152 + i * 8) then (1 : Int32) <<< (nI i &&& 31) else 0))), _] _ _
      rw [if_neg h])
  refine h.trans ?_
  show jv (d + 2) 55 4 _ _ _ = _
  rw [B55_4_o1, if_pos (by decide), z0_2, if_neg (show ¬ nI 16 < (16 : Int32) from by decide)]
end KINDS
theorem kv_0 : kv i3f 16 = 0 := by decide +kernel
theorem and_all (x : Int32) : x &&& ((0 : Int32) ^^^ (-1)) = x := by
  apply Int32.toBitVec_inj.mp
  show x.toBitVec &&& BitVec.allOnes 32 = x.toBitVec
  rw [BitVec.and_allOnes]
theorem sh16 : (1 : Int32) <<< ((z_0.getD (2 : Int32).toNatClampNeg 0) &&& 31) = 65536 := by decide +kernel
theorem smod16 : ∀ p, p < 16 → ((nI p &&& 31).toBitVec.smod 32).toNat = p := by decide +kernel
theorem bit_at {n p : Nat} (hn : n < 65536) (hp : p < 16) : ((nI n >>> (nI p &&& 31)) &&& 1) = 1 ↔ n / 2 ^ p % 2 = 1 := by
  have h2 : n / 2 ^ p ≤ n := Nat.div_le_self _ _
  rw [pk_shrN (by omega) _ p (smod16 p hp), pk_andN (by omega) 1 (by decide)]
  exact nI_eq (b := 1) (by omega) (by decide)
theorem m0f_sp : ∀ p, p < 16 → m0f (152 + p * 8 + 0) = 0 := by decide +kernel
theorem bits0 (n : Nat) : ∀ k, (∀ q, q < k → n / 2 ^ q % 2 = 0) → n % 2 ^ k = 0 := by
  intro k
  induction k with
  | zero => intro _; rw [Nat.pow_zero, Nat.mod_one]
  | succ k ih =>
    intro h
    rw [Nat.mod_pow_succ, ih (fun q hq => h q (by omega)), h k (by omega), Nat.mul_zero]
theorem sea_r_bad {d n : Nat} (hn : n < 65536) (h0 : n ≠ 0) : ∀ m p, p + m = 16 → (∀ q, q < p → n / 2 ^ q % 2 = 0) → jv (d + 1) 319 15 [some (.ref 0), some (.int (nI n)), some (.int (nI p))] [] (shR, rI0, (fun _ _ => 0), pR) = some (some (.int (-1)), (shR, rI0, (fun _ _ => 0), pR)) := by
  intro m
  induction m with
  | zero =>
    intro p hp hq
    have hp : p = 16 := by omega
    subst hp
    exfalso
    have h16 := bits0 n 16 hq
    have e16 : (2 : Nat) ^ 16 = 65536 := by decide
    rw [e16, Nat.mod_eq_of_lt hn] at h16
    exact h0 h16
  | succ m ih =>
    intro p hp hq
    have hp16 : p < 16 := by omega
    rw [B319_15, if_pos (show nI p < (16 : Int32) from nI_lt hp16 (by decide))]
    by_cases hb : ((nI n >>> (nI p &&& 31)) &&& 1) = 1
    · have g : ∀ K, jgo jTT jMM (d + 1) 214 [.ref 0, .int 2, .int (nI p), .int 0] (shR, rI0, (fun _ _ => 0), pR) K = K (some (.int (nI (152 + p * 8 + 0)))) (shR, rI0, (fun _ _ => 0), pR) := fun K => jgo_some rfl (at_ok (t := 2) rI0_cst (by decide) p 0)
      rw [if_pos hb, g]
      dsimp only [Option.toList_some, List.cons_append, List.nil_append]
      rw [B319_41, if_pos (j_in_nI (by omega) (by decide)), nI_clamp (by omega), if_pos (show rI0 6 (152 + p * 8 + 0) = 0 from m0f_sp p hp16)]
    · rw [if_neg hb, B319_47, nI_1]
      refine ih (p + 1) (by omega) (fun q hq' => ?_)
      by_cases e : q = p
      · subst e
        have := (not_congr (bit_at hn hp16)).mp hb
        omega
      · exact hq q (by omega)
theorem i_lt65536 {x : Int32} (h : ¬ 65535 < x) : x < nI 65536 := by
  rw [Int32.lt_iff_toInt_lt] at h ⊢
  rw [show (65535 : Int32).toInt = 65535 from rfl] at h
  rw [show (nI 65536).toInt = 65536 from rfl]
  omega
theorem i_nlt65536 {x : Int32} (h : 65535 < x) : ¬ x < 65536 := by
  rw [Int32.lt_iff_toInt_lt] at h ⊢
  rw [show (65535 : Int32).toInt = 65535 from rfl] at h
  rw [show (65536 : Int32).toInt = 65536 from rfl]
  omega
theorem g_kinds {d : Nat} {K : Option Value → jS → jO} : jgo jTT jMM (d + 6) 55 [.ref 1] (shC, i3f, l3f, pX (some 38) (some 49) none none) K = K (some (.int 0)) (shC, i3f, l3f, pX (some 38) (some 49) none none) := by
  have h := kinds_1 (d := d + 3) (I := i3f) (L := l3f) (pa := some 38) (pb := some 49) (pu := none) (pw := none) none none
  rw [kv_0] at h
  exact jgo_some rfl h
theorem ar_sea_n {n : Nat} (hn : n < 65536) (h0 : n ≠ 0) : ∃ v : Int32, jEnds 193 [.int (nI n)] SC0 (.int v) ∧ jEnds 319 [.int (nI n)] SR0 (.int v) := by
  have hx : ¬ nI n = 0 := nI_ne0 (by omega) (by omega)
  refine ⟨-1, ends_c0 rfl (fun d => ?_), ends_r0 rfl (fun d => ?_)⟩
  · show jv (d + 6) 193 0 [some (.ref 0), some (.int (nI n))] [] (shC, i3f, l3f, pX (some 38) (some 49) none none) = _
    rw [B193_0, if_neg (nI_pos (by omega)), if_pos (by decide), sh16, if_pos (show nI n < (65536 : Int32) from nI_lt hn (by decide)), g_kinds]
    dsimp only [Option.toList_some, List.cons_append, List.nil_append]
    rw [B193_23, and_all, if_neg hx, B193_29]
    rfl
  · show jv (d + 6) 319 0 [some (.ref 0), some (.int (nI n)), none] [] (shR, rI0, (fun _ _ => 0), pR) = _
    rw [B319_0, if_neg (nI_pos (by omega)), if_neg (show ¬ (65535 : Int32) < nI n from nI_nlt (a := 65535) (by omega) (by decide))]
    exact sea_r_bad hn h0 16 0 rfl (fun q hq => absurd hq (Nat.not_lt_zero q))
