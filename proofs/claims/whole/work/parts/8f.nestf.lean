/-! PLATES: how many cells one has, in both -/
section NESTF
variable {d e : Nat} {I J : Nat → Nat → Int32} {L L' : Nat → Nat → Int64} {pa pb pu pw : Option Nat} {a : Nat → Nat}
def cellN (a : Nat → Nat) (n : Nat) : Nat := smN (fun j => popN (a j)) n
theorem cells_r (hr : rCst J) {k : Nat} (hk : k < 8) (ha : ∀ j, j < 12 → a j < 2 ^ 24 ∧ J 6 (600 + k * 14 + j) = nI (a j)) : jv (e + 1) 330 0 [some (.ref 0), some (.int (nI k)), none, none, none] [] (shR, J, L', pR) = some (some (.int (nI (cellN a 12))), (shR, J, L', pR)) := by
  obtain ⟨z, -, hz⟩ := j_runP (fun j (o4 : Option Value) => jv (e + 1) 330 4 [some (.ref 0), some (.int (nI k)), some (.int (nI (cellN a j))), some (.int (nI j)), o4] [] (shR, J, L', pR)) (fun _ _ => True) 12 (fun j hj o4 _ => by
    obtain ⟨a1, a2⟩ := ha j hj
    refine ⟨some (.int (nI 24)), trivial, ?_⟩
    rw [B330_4, if_pos (show nI j < 12 from nI_lt (b := 12) hj (by decide))]
    refine Eq.trans (j_run (fun i => jv (e + 1) 330 13 [some (.ref 0), some (.int (nI k)), some (.int (nI (cellN a j + smN (fun u => a j / 2 ^ u % 2) i))), some (.int (nI j)), some (.int (nI i))] [] (shR, J, L', pR)) 24 (fun i hi => ?_)) ?_
    · rw [B330_13, if_pos (show nI i < 24 from nI_lt (b := 24) hi (by decide)), g_plt_r hr]
      dsimp only [Option.toList_some, List.cons_append, List.nil_append]
      rw [B330_33, if_pos (j_in_nI (by omega) (by decide)), nI_clamp (n := 600 + k * 14 + j) (by omega), a2, bit_nI (by omega) (by omega), nI_add, nI_1 i, Nat.add_assoc (cellN a j)]
      rfl
    · rw [B330_13, if_neg (by decide), nI_1 j]
      rfl) none trivial
  rw [B330_0]
  refine hz.trans ?_
  rw [B330_4, if_neg (by decide)]
/-- and in the class: the rows of a plate -/
theorem cells_c {k : Nat} (hk : k < 8) (ha : ∀ j, j < 12 → a j < 2 ^ 24 ∧ I 2 (600 + k * 14 + j) = nI (a j)) (l1 l2 l3 : Int32) : jv (d + 1) 114 20 [some (.ref 1), some (.int l1), some (.int l2), some (.int l3), some (.int (nI k)), some (.int 0), some (.int 0)] [] (shC, I, L, pX pa pb pu pw) = jv (d + 1) 114 20 [some (.ref 1), some (.int l1), some (.int l2), some (.int l3), some (.int (nI k)), some (.int (nI (cellN a 12))), some (.int (nI 12))] [] (shC, I, L, pX pa pb pu pw) := by
  refine j_run (fun j => jv (d + 1) 114 20 [some (.ref 1), some (.int l1), some (.int l2), some (.int l3), some (.int (nI k)), some (.int (nI (cellN a j))), some (.int (nI j))] [] (shC, I, L, pX pa pb pu pw)) 12 (fun j hj => ?_)
  obtain ⟨a1, a2⟩ := ha j hj
  rw [B114_20, if_pos (show nI j < 12 from nI_lt (b := 12) hj (by decide)), g_plt_c hk (by omega)]
  dsimp only [Option.toList_some, List.cons_append, List.nil_append]
  rw [B114_39, a2, jgo_some (d := d) rfl (F361_0 d (nI (a j)) _)]
  dsimp only [Option.toList_some, List.cons_append, List.nil_append]
  rw [B114_42, bc_pop a1, nI_add, nI_1 j]
  rfl
end NESTF
