/-! PIPES: the class's walk -/
section LEADK
variable {d : Nat} {L : Nat → Nat → Int64} {pa pb pu pw : Option Nat} {f g : Nat → Nat} {M to : Nat}
theorem nI_sub2 {a x y D : Nat} (ha : a ≤ 1048576) (hx : x ≤ 100) (hy : y ≤ 100) (hD : D ≤ 1048576) : nI a = nI D - nI x - nI y ↔ a + x + y = D := by
  have e1 : (nI D - nI x).toInt = (D : Int) - (x : Int) := by
    rw [Int32.toInt_sub, nI_toInt (by omega), nI_toInt (by omega), Int.bmod_def]
    split <;> omega
  have e2 : (nI D - nI x - nI y).toInt = (D : Int) - (x : Int) - (y : Int) := by
    rw [Int32.toInt_sub, e1, nI_toInt (by omega), Int.bmod_def]
    split <;> omega
  rw [← Int32.toInt_inj, e2, nI_toInt (by omega)]
  omega
def bfI (b : Option Nat) (j : Nat) : Nat := match b with | none => 0 | some l => if l = j then 0 else 3
theorem py_bf (b : Option Nat) (j : Nat) : pyN b j = csN j + bfI b j := by
  cases b with
  | none => rfl
  | some l => rfl
/-- one step of bestStep() -/
theorem bs_j {I : Nat → Nat → Int32} {c D j : Nat} {b : Option Nat} (hc : c < 1600) (hj : j < 6) (hb : ∀ l, b = some l → l < 6) (hD : D ≤ 9603) (hL : ∀ x, x < 9600 → I 103 x = nI (f x) ∧ f x ≤ 1048576) (o5 o6 : Option Value) : ((∃ n, stp c j n ∧ f (6 * n + j) + pyN b j = D) → jv (d + 1) 91 3 [some (.ref 96), some (.int (nI c)), some (.int (oN b)), some (.int (nI D)), some (.int (nI j)), o5, o6] [] (shC, I, L, pX pa pb pu pw) = some (some (.int (nI j)), (shC, I, L, pX pa pb pu pw))) ∧ ((¬ ∃ n, stp c j n ∧ f (6 * n + j) + pyN b j = D) → ∃ o5' o6', jv (d + 1) 91 3 [some (.ref 96), some (.int (nI c)), some (.int (oN b)), some (.int (nI D)), some (.int (nI j)), o5, o6] [] (shC, I, L, pX pa pb pu pw) = jv (d + 1) 91 3 [some (.ref 96), some (.int (nI c)), some (.int (oN b)), some (.int (nI D)), some (.int (nI (j + 1))), o5', o6'] [] (shC, I, L, pX pa pb pu pw)) := by
  have start : jv (d + 1) 91 3 [some (.ref 96), some (.int (nI c)), some (.int (oN b)), some (.int (nI D)), some (.int (nI j)), o5, o6] [] (shC, I, L, pX pa pb pu pw) = jv (d + 1) 91 33 [some (.ref 96), some (.int (nI c)), some (.int (oN b)), some (.int (nI D)), some (.int (nI j)), some (.int (oN (nbO c j))), o6] [.int (nI (bfI b j))] (shC, I, L, pX pa pb pu pw) := by
    rw [B91_3, if_pos (show nI j < 6 from nI_lt (b := 6) hj (by decide)), jgo_some rfl (nb_c hc hj none none none)]
    dsimp only [Option.toList_some, List.cons_append, List.nil_append]
    rw [B91_16]
    cases e : b with
    | none => rw [if_pos oN_none, B91_32]; rfl
    | some l =>
      have hl := hb l e
      rw [if_neg (oN_some (by omega)), show oN (some l) = nI l from rfl]
      by_cases w : l = j
      · rw [if_pos ((nI_eq (by omega) (by omega)).mpr w), B91_32, show bfI (some l) j = 0 from if_pos w]
        rfl
      · rw [if_neg (fun z => w ((nI_eq (by omega) (by omega)).mp z)), show bfI (some l) j = 3 from if_neg w]
        rfl
  have hbf : bfI b j ≤ 3 := by
    cases b with
    | none => exact Nat.zero_le _
    | some l => unfold bfI; dsimp only; split <;> omega
  have c2 := cs_two j
  rw [start, B91_33]
  cases e : nbO c j with
  | none =>
    have no : ∀ n, ¬ stp c j n := fun n z => by
      have := (nbO_iff hc hj).mpr z
      rw [e] at this
      cases this
    refine ⟨fun ⟨n, h1, _⟩ => absurd h1 (no n), fun _ => ?_⟩
    rw [if_pos oN_none, B91_69, nI_1]
    exact ⟨_, _, rfl⟩
  | some n =>
    have h1 := (nbO_iff hc hj).mp e
    have hn := stp_lt hc h1
    have e1 : nI n * 6 + nI j = nI (6 * n + j) := by rw [show nI n * 6 = nI (n * 6) from nI_mul n 6, nI_add, Nat.mul_comm]
    have hl := hL (6 * n + j) (by omega)
    have ex : (∃ n, stp c j n ∧ f (6 * n + j) + pyN b j = D) ↔ f (6 * n + j) + bfI b j + csN j = D := by
      rw [py_bf]
      constructor
      · rintro ⟨m, m1, m2⟩
        have := stp_fn m1 h1
        subst this
        omega
      · intro z
        exact ⟨n, h1, by omega⟩
    rw [ex, if_neg (oN_some (by omega)), show oN (some n) = nI n from rfl, e1, if_pos (j_in_nI (by omega) (by decide)), jgo_some rfl (cst_c hj)]
    dsimp only [Option.toList_some, List.cons_append, List.nil_append]
    rw [B91_62, nI_clamp (n := 6 * n + j) (by omega), hl.1]
    refine ⟨fun z => ?_, fun z => ?_⟩
    · rw [if_pos ((nI_sub2 hl.2 (by omega) (by omega) (by omega)).mpr z)]
    · rw [if_neg (fun w => z ((nI_sub2 hl.2 (by omega) (by omega) (by omega)).mp w)), B91_69, nI_1]
      exact ⟨_, _, rfl⟩
theorem best_c {I : Nat → Nat → Int32} {c D s n : Nat} {b : Option Nat} (hc : c < 1600) (hb : ∀ l, b = some l → l < 6) (hD : D ≤ 9603) (hL : ∀ x, x < 9600 → I 103 x = nI (f x) ∧ f x ≤ 1048576) (h1 : stp c s n) (h2 : f (6 * n + s) + pyN b s = D) (h3 : ∀ s' n', s' < s → stp c s' n' → f (6 * n' + s') + pyN b s' ≠ D) : jv (d + 1) 91 0 [some (.ref 96), some (.int (nI c)), some (.int (oN b)), some (.int (nI D)), none, none, none] [] (shC, I, L, pX pa pb pu pw) = some (some (.int (nI s)), (shC, I, L, pX pa pb pu pw)) := by
  have hs := stp_s h1
  obtain ⟨⟨o5, o6⟩, -, a⟩ := j_runP (α := Option Value × Option Value) (fun j t => jv (d + 1) 91 3 [some (.ref 96), some (.int (nI c)), some (.int (oN b)), some (.int (nI D)), some (.int (nI j)), t.1, t.2] [] (shC, I, L, pX pa pb pu pw)) (fun _ _ => True) s (fun j hj t _ => by
    obtain ⟨o5', o6', z⟩ := (bs_j (d := d) (L := L) (pa := pa) (pb := pb) (pu := pu) (pw := pw) hc (by omega : j < 6) hb hD hL t.1 t.2).2 (fun ⟨m, m1, m2⟩ => h3 j m hj m1 m2)
    exact ⟨(o5', o6'), trivial, z⟩) (none, none) trivial
  rw [B91_0]
  exact (show _ = _ from a).trans ((bs_j (d := d) (L := L) (pa := pa) (pb := pb) (pu := pu) (pw := pw) hc hs hb hD hL o5 o6).1 ⟨n, h1, h2⟩)
def frW (I I' : Nat → Nat → Int32) : Prop := ∀ c, c ≠ 98 → c ≠ 99 → c ≠ 100 → c ≠ 101 → I' c = I c
theorem nar_s {s : Nat} (h : s < 6) : vp_nar .byte (nI s).toInt8.toInt32 = nI s := by
  have : s = 0 ∨ s = 1 ∨ s = 2 ∨ s = 3 ∨ s = 4 ∨ s = 5 := by omega
  rcases this with rfl | rfl | rfl | rfl | rfl | rfl <;> decide
/-- walk(), from a cell on -/
theorem wlk_c {p : Nat} (hp : p < 6) (l2 l3 : Int32) : ∀ (ws : List Nat) (c D k bd : Nat) (b : Option Nat) (I : Nat → Nat → Int32) (o8 : Option Value), wyP M f g to c b D ws → c < 1600 → (∀ l, b = some l → l < 6) → D ≤ 9603 → k + ws.length ≤ 1600 → bd ≤ k → (∀ x, x < 9600 → I 103 x = nI (f x) ∧ f x ≤ 1048576) → I 98 p = nI k → I 99 p = nI bd → ∃ I', frW I I' ∧ (∀ q, q ≠ p → I' 98 q = I 98 q ∧ I' 99 q = I 99 q) ∧ I' 98 p = nI (k + ws.length) ∧ I' 99 p = nI (bd + bnN b ws) ∧ (∀ q, q < 1600 * p + k ∨ 1600 * p + k + ws.length ≤ q → I' 100 q = I 100 q) ∧ (∀ j, j < ws.length → I' 100 (1600 * p + k + j) = nI (ws.getD j 0)) ∧ (∀ x, x < 1600 → (I' 101 x = 0 ↔ I 101 x = 0 ∧ ¬ vsP c ws x)) ∧ jv (d + 2) 90 34 [some (.ref 96), some (.int (nI p)), some (.int l2), some (.int l3), some (.int (nI c)), some (.int (oN b)), some (.int (nI D)), some (.int (nI k)), o8] [] (shC, I, L, pX pa pb pu pw) = some (none, (shC, I', L, pX pa pb pu pw)) := by
  intro ws
  induction ws with
  | nil =>
    intro c D k bd b I o8 h hc hb hD hk hbd hL h98 h99
    obtain ⟨-, rfl⟩ := h
    refine ⟨I, fun _ _ _ _ _ => rfl, fun _ _ => ⟨rfl, rfl⟩, by rw [h98]; rfl, by rw [h99]; rfl, fun _ _ => rfl, fun j hj => absurd hj (Nat.not_lt_zero _), fun x _ => ⟨fun z => ⟨z, fun w => w⟩, fun z => z.1⟩, ?_⟩
    rw [B90_34, if_neg (show ¬ (0 : Int32) < nI 0 by decide), ite_self, B90_159]
  | cons s ws ih =>
    intro c D k bd b I o8 h hc hb hD hk hbd hL h98 h99
    obtain ⟨h0, n, h1, h2, h3, h4, h5, h6, h7, h8⟩ := h
    have hs := stp_s h1
    have hn := stp_lt hc h1
    have p2 := py_two b s
    have jp : j_in (nI p) 6 = true := j_in_nI hp (by decide)
    rw [List.length_cons] at hk
    have e1 : nI n * 6 + nI s = nI (6 * n + s) := by rw [show nI n * 6 = nI (n * 6) from nI_mul n 6, nI_add, Nat.mul_comm]
    have e2 : nI p * 1600 + nI k = nI (1600 * p + k) := by rw [show nI p * 1600 = nI (p * 1600) from nI_mul p 1600, nI_add, Nat.mul_comm]
    have hl := hL (6 * n + s) (by omega)
    rw [B90_34, if_pos (show nI k < 1600 from nI_lt (b := 1600) (by omega) (by decide)), if_pos (show (0 : Int32) < nI D from nI_lt (a := 0) (by omega) (by omega)), jgo_some rfl (best_c (d := d) (L := L) (pa := pa) (pb := pb) (pu := pu) (pw := pw) hc hb hD hL h1 (by rw [h4]; exact h3) (fun s' n' w1 w2 w3 => h5 s' n' w1 w2 ((h7 s' n' w2).mp w3)))]
    dsimp only [Option.toList_some, List.cons_append, List.nil_append]
    rw [B90_57, if_neg (nI_pos (by omega)), jgo_some rfl (nb_c hc hs none none none), (nbO_iff hc hs).mpr h1]
    dsimp only [Option.toList_some, List.cons_append, List.nil_append]
    have mid : jv (d + 2) 90 72 [some (.ref 96), some (.int (nI p)), some (.int l2), some (.int l3), some (.int (nI c)), some (.int (oN b)), some (.int (nI D)), some (.int (nI k)), some (.int (nI s))] [.int (oN (some n))] (shC, I, L, pX pa pb pu pw) = jv (d + 2) 90 113 [some (.ref 96), some (.int (nI p)), some (.int l2), some (.int l3), some (.int (nI n)), some (.int (oN b)), some (.int (nI (g (6 * n + s)))), some (.int (nI k)), some (.int (nI s))] [.int (nI (bn1 b s)), .int (nI bd), .int (nI p), .ref 99] (shC, I, L, pX pa pb pu pw) := by
      rw [B90_72, show oN (some n) = nI n from rfl, e1, if_pos (j_in_nI (by omega) (by decide)), if_pos jp, nI_clamp (n := 6 * n + s) (by omega), nI_clamp (n := p) (by omega), hl.1, h99, h4]
      cases e : b with
      | none => rw [if_pos oN_none, B90_112]; rfl
      | some l =>
        have hl := hb l e
        rw [if_neg (oN_some (by omega)), show oN (some l) = nI l from rfl]
        by_cases w : l = s
        · rw [if_pos ((nI_eq (by omega) (by omega)).mpr w), B90_112]
          rw [show bn1 (some l) s = 0 from if_pos w]
          rfl
        · rw [if_neg (fun z => w ((nI_eq (by omega) (by omega)).mp z))]
          rw [show bn1 (some l) s = 1 from if_neg w]
          rfl
    have hbe := bn1_le b s
    rw [mid, B90_113, if_pos jp, e2, if_pos (j_in_nI (by omega) (by decide)), if_pos jp, if_pos jp, if_pos (j_in_nI hn (by decide)), nI_clamp (n := p) (by omega), nI_clamp (n := 1600 * p + k) (by omega), nI_clamp (n := n) (by omega), nar_s hs, nI_add, j_up_cell _ (by decide : 98 ≠ 100), j_up_cell _ (by decide : 98 ≠ 99), h98, nI_1]
    generalize hbv : bn1 b s = bv at hbe ⊢
    obtain ⟨I', a1, a2, a3, a4, a5, a6, a7, a8⟩ := ih n (g (6 * n + s)) (k + 1) (bd + bv) (some s) (j_up (j_up (j_up (j_up I 99 p (nI (bd + bv))) 100 (1600 * p + k) (nI s)) 98 p (nI (k + 1))) 101 n (vp_nar .byte 1)) (some (.int (nI s))) h8 hn (fun l hl => by injection hl with hl; omega) (by omega) (by omega) (by omega) (fun x hx => by rw [j_up_cell _ (by decide), j_up_cell _ (by decide), j_up_cell _ (by decide), j_up_cell _ (by decide)]; exact hL x hx) (by rw [j_up_cell _ (by decide), j_up_self]) (by rw [j_up_cell _ (by decide), j_up_cell _ (by decide), j_up_cell _ (by decide), j_up_self])
    refine ⟨I', fun c' b1 b2 b3 b4 => ?_, fun q hq => ⟨?_, ?_⟩, ?_, ?_, fun q hq => ?_, fun j hj => ?_, fun x hx => ?_, a8⟩
    · rw [a1 c' b1 b2 b3 b4, j_up_cell _ b4, j_up_cell _ b1, j_up_cell _ b3, j_up_cell _ b2]
    · rw [(a2 q hq).1, j_up_cell _ (by decide), j_up_own, if_neg hq, j_up_cell _ (by decide), j_up_cell _ (by decide)]
    · rw [(a2 q hq).2, j_up_cell _ (by decide), j_up_cell _ (by decide), j_up_cell _ (by decide), j_up_own, if_neg hq]
    · rw [a3, List.length_cons]
      congr 1
      omega
    · rw [a4]
      show nI (bd + bv + bnN (some s) ws) = nI (bd + ((bn1 b s) + bnN (some s) ws))
      rw [hbv, Nat.add_assoc]
    · rw [List.length_cons] at hq
      rw [a5 q (by omega), j_up_cell _ (by decide), j_up_cell _ (by decide), j_up_own, if_neg (by omega), j_up_cell _ (by decide)]
    · cases j with
      | zero => rw [a5 (1600 * p + k + 0) (by omega), j_up_cell _ (by decide), j_up_cell _ (by decide), j_up_own, if_pos (by omega)]; rfl
      | succ j =>
        rw [List.length_cons] at hj
        rw [show 1600 * p + k + (j + 1) = 1600 * p + (k + 1) + j by omega, a6 j (by omega)]
        rfl
    · rw [a7 x hx, j_up_own]
      by_cases w : x = n
      · rw [if_pos w]
        constructor
        · intro z; exact absurd z.1 (by decide)
        · intro z; exact absurd ⟨n, h1, Or.inl w⟩ z.2
      · rw [if_neg w, j_up_cell _ (by decide), j_up_cell _ (by decide), j_up_cell _ (by decide)]
        constructor
        · rintro ⟨z1, z2⟩
          refine ⟨z1, ?_⟩
          rintro ⟨m, m1, m2⟩
          have := stp_fn m1 h1
          subst this
          exact m2.elim w z2
        · rintro ⟨z1, z2⟩
          exact ⟨z1, fun z => z2 ⟨n, h1, Or.inr z⟩⟩
end LEADK
