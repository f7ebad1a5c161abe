/-! PIPES: the class's search -/
def nbO (c s : Nat) : Option Nat := if s = 0 then (if c % 20 < 19 then some (c + 1) else none) else if s = 1 then (if 0 < c % 20 then some (c - 1) else none) else if s = 2 then (if c / 20 % 10 < 9 then some (c + 20) else none) else if s = 3 then (if 0 < c / 20 % 10 then some (c - 20) else none) else if s = 4 then (if c / 200 < 7 then some (c + 200) else none) else if 0 < c / 200 then some (c - 200) else none
theorem nbO_iff {c s n : Nat} (hc : c < 1600) (hs : s < 6) : nbO c s = some n ↔ stp c s n := by
  unfold nbO stp
  have : s = 0 ∨ s = 1 ∨ s = 2 ∨ s = 3 ∨ s = 4 ∨ s = 5 := by omega
  rcases this with rfl | rfl | rfl | rfl | rfl | rfl <;> simp <;> omega
theorem bk_lt {s : Nat} (h : s < 6) : bkS s < 6 := by unfold bkS; split <;> omega
theorem bk_x {s : Nat} (h : s < 6) : nI s ^^^ 1 = nI (bkS s) := by
  have : s = 0 ∨ s = 1 ∨ s = 2 ∨ s = 3 ∨ s = 4 ∨ s = 5 := by omega
  rcases this with rfl | rfl | rfl | rfl | rfl | rfl <;> decide
section LEADE
variable {d : Nat} {L : Nat → Nat → Int64} {pa pb pu pw : Option Nat} {I : Nat → Nat → Int32}
theorem nb_c {c s : Nat} (hc : c < 1600) (hs : s < 6) (o2 o3 o4 : Option Value) : jv d 85 0 [some (.int (nI c)), some (.int (nI s)), o2, o3, o4] [] (shC, I, L, pX pa pb pu pw) = some (some (.int (oN (nbO c s))), (shC, I, L, pX pa pb pu pw)) := by
  have ex : nI c - nI c / 20 * 20 = nI (c % 20) := nI_mod (b := 20) (by omega) (by decide)
  have ed : nI c / 20 = nI (c / 20) := nI_div (b := 20) (by omega) (by decide)
  have ey : nI (c / 20) - nI (c / 20) / 10 * 10 = nI (c / 20 % 10) := nI_mod (b := 10) (by omega) (by decide)
  have ez : nI c / 200 = nI (c / 200) := nI_div (b := 200) (by omega) (by decide)
  rw [B85_0, if_neg (by decide), if_neg (by decide), if_neg (by decide), if_neg (by decide), ex, ed, ey, ez]
  have : s = 0 ∨ s = 1 ∨ s = 2 ∨ s = 3 ∨ s = 4 ∨ s = 5 := by omega
  rcases this with rfl | rfl | rfl | rfl | rfl | rfl
  · rw [if_pos (by decide), nI_1, nI_1]
    by_cases q : c % 20 < 19
    · rw [if_pos (show nI (c % 20 + 1) < 20 from nI_lt (b := 20) (by omega) (by decide)), B85_71, show nbO c 0 = some (c + 1) from (nbO_iff hc hs).mpr (by unfold stp; omega)]
      rfl
    · rw [if_neg (show ¬ nI (c % 20 + 1) < 20 from nI_nlt (b := 20) (by omega) (by omega)), B85_71, show nbO c 0 = none from by unfold nbO; rw [if_pos rfl, if_neg q]]
      rfl
  · rw [if_neg (by decide), if_pos (by decide)]
    by_cases q : 0 < c % 20
    · rw [if_pos (show (0 : Int32) < nI (c % 20) from nI_lt (a := 0) q (by omega)), B85_83, show nI c - 1 = nI (c - 1) from nI_sub (b := 1) (by omega), show nbO c 1 = some (c - 1) from (nbO_iff hc hs).mpr (by unfold stp; omega)]
      rfl
    · rw [if_neg (show ¬ (0 : Int32) < nI (c % 20) from nI_nlt (a := 0) (by omega) (by decide)), B85_83, show nbO c 1 = none from by unfold nbO; rw [if_neg (by decide), if_pos rfl, if_neg q]]
      rfl
  · rw [if_neg (by decide), if_neg (by decide), if_pos (by decide), nI_1, show nI c + 20 = nI (c + 20) from nI_add c 20]
    by_cases q : c / 20 % 10 < 9
    · rw [if_pos (show nI (c / 20 % 10 + 1) < 10 from nI_lt (b := 10) (by omega) (by decide)), B85_100, show nbO c 2 = some (c + 20) from (nbO_iff hc hs).mpr (by unfold stp; omega)]
      rfl
    · rw [if_neg (show ¬ nI (c / 20 % 10 + 1) < 10 from nI_nlt (b := 10) (by omega) (by omega)), B85_100, show nbO c 2 = none from by unfold nbO; rw [if_neg (by decide), if_neg (by decide), if_pos rfl, if_neg q]]
      rfl
  · rw [if_neg (by decide), if_neg (by decide), if_neg (by decide), if_pos (by decide)]
    by_cases q : 0 < c / 20 % 10
    · rw [if_pos (show (0 : Int32) < nI (c / 20 % 10) from nI_lt (a := 0) q (by omega)), B85_113, show nI c - 20 = nI (c - 20) from nI_sub (b := 20) (by omega), show nbO c 3 = some (c - 20) from (nbO_iff hc hs).mpr (by unfold stp; omega)]
      rfl
    · rw [if_neg (show ¬ (0 : Int32) < nI (c / 20 % 10) from nI_nlt (a := 0) (by omega) (by decide)), B85_113, show nbO c 3 = none from by unfold nbO; rw [if_neg (by decide), if_neg (by decide), if_neg (by decide), if_pos rfl, if_neg q]]
      rfl
  · rw [if_neg (by decide), if_neg (by decide), if_neg (by decide), if_neg (by decide), if_pos (by decide), nI_1, show nI c + 200 = nI (c + 200) from nI_add c 200]
    by_cases q : c / 200 < 7
    · rw [if_pos (show nI (c / 200 + 1) < 8 from nI_lt (b := 8) (by omega) (by decide)), B85_132, show nbO c 4 = some (c + 200) from (nbO_iff hc hs).mpr (by unfold stp; omega)]
      rfl
    · rw [if_neg (show ¬ nI (c / 200 + 1) < 8 from nI_nlt (b := 8) (by omega) (by omega)), B85_132, show nbO c 4 = none from by unfold nbO; rw [if_neg (by decide), if_neg (by decide), if_neg (by decide), if_neg (by decide), if_pos rfl, if_neg q]]
      rfl
  · rw [if_neg (by decide), if_neg (by decide), if_neg (by decide), if_neg (by decide), if_neg (by decide)]
    by_cases q : 0 < c / 200
    · rw [if_pos (show (0 : Int32) < nI (c / 200) from nI_lt (a := 0) q (by omega)), B85_147, show nI c - 200 = nI (c - 200) from nI_sub (b := 200) (by omega), show nbO c 5 = some (c - 200) from (nbO_iff hc hs).mpr (by unfold stp; omega)]
      rfl
    · rw [if_neg (show ¬ (0 : Int32) < nI (c / 200) from nI_nlt (a := 0) (by omega) (by decide)), B85_147, show nbO c 5 = none from by unfold nbO; rw [if_neg (by decide), if_neg (by decide), if_neg (by decide), if_neg (by decide), if_neg (by decide), if_neg q]]
      rfl
theorem cst_c {s : Nat} (hs : s < 6) : jv d 86 0 [some (.int (nI s))] [] (shC, I, L, pX pa pb pu pw) = some (some (.int (nI (csN s))), (shC, I, L, pX pa pb pu pw)) := by
  rw [B86_0]
  unfold csN
  by_cases q : s < 4
  · rw [if_pos (show nI s < 4 from nI_lt (b := 4) q (by decide)), B86_10, if_pos q]
    rfl
  · rw [if_neg (show ¬ nI s < 4 from nI_nlt (b := 4) (by omega) (by omega)), B86_10, if_neg q]
    rfl
/-- the barred cells -/
def brC (B : Nat → Prop) (I : Nat → Nat → Int32) : Prop := ∀ c, c < 1600 → (I 102 c = 0 ↔ ¬ B c)
/-- the search at the cost now -/
def srC (B : Nat → Prop) (to fr now : Nat) (Z : Nat → Prop) (f : Nat → Nat) (K : Nat) (I : Nat → Nat → Int32) : Prop := djk 1048576 B to now Z f ∧ que (wtN 1048576 Z f) f I ∧ lstP 1048576 Z f fr K ∧ brC B I
theorem brC.fr {B : Nat → Prop} {I I' : Nat → Nat → Int32} (h : brC B I) (hf : fQ I I') : brC B I' := by
  intro c hc
  rw [hf.1 102 (by decide) (by decide) (by decide) (by decide) (by decide)]
  exact h c hc
theorem wt_succ {Z : Nat → Prop} {f : Nat → Nat} {p s now j : Nat} (hj : j < 6) (hp : p < 1600) (hz : ∀ y, Z y → f y ≤ now) (hn : now + 6 < 1048576) (z : Nat) : (wtN 1048576 Z (rlx f p s now j) z ∨ (z = 6 * p + j ∧ now + prN s j < rlx f p s now j (6 * p + j))) ↔ wtN 1048576 Z (rlx f p s now (j + 1)) z := by
  have p2 := pr_two s j
  unfold wtN
  rw [rlx_succ f hj z]
  by_cases e : z = 6 * p + j
  · subst e
    rw [upO_s]
    constructor
    · rintro (⟨h1, h2, h3⟩ | ⟨-, h2⟩)
      · exact ⟨h1, by omega, h3⟩
      · refine ⟨by omega, by omega, fun z => ?_⟩
        have := rlx_le f p s now j (6 * p + j)
        have := hz _ z
        omega
    · rintro ⟨h1, h2, h3⟩
      by_cases q : now + prN s j < rlx f p s now j (6 * p + j)
      · exact Or.inr ⟨rfl, q⟩
      · exact Or.inl ⟨h1, by omega, h3⟩
  · rw [upO_n _ _ e]
    exact ⟨fun h => h.resolve_right (fun q => e q.1), Or.inl⟩
/-- the six states of a cell are offered their costs -/
theorem rlx_c {Z : Nat → Prop} {f : Nat → Nat} {p s now fr to K i x : Nat} (hs : s < 6) (hp : p < 1600) (hz : ∀ y, Z y → f y ≤ now) (hn : now + 6 < 1048576) (Q : que (wtN 1048576 Z f) f I) : ∃ I', fQ I I' ∧ que (wtN 1048576 Z (rlx f p s now 6)) (rlx f p s now 6) I' ∧ jv (d + 2) 87 182 [some (.ref 96), some (.int (nI fr)), some (.int (nI to)), some (.int (nI K)), some (.int (nI now)), some (.int (nI i)), some (.int (nI x)), some (.int (nI s)), some (.int (nI p)), some (.int (nI (now + csN s))), some (.int (nI 0))] [] (shC, I, L, pX pa pb pu pw) = jv (d + 2) 87 223 [some (.ref 96), some (.int (nI fr)), some (.int (nI to)), some (.int (nI K)), some (.int (nI now)), some (.int (nI i)), some (.int (nI x)), some (.int (nI s)), some (.int (nI p)), some (.int (nI (now + csN s))), some (.int (nI 6))] [] (shC, I', L, pX pa pb pu pw) := by
  obtain ⟨I', ⟨a1, a2⟩, a3⟩ := j_runP (α := Nat → Nat → Int32) (fun j I1 => jv (d + 2) 87 182 [some (.ref 96), some (.int (nI fr)), some (.int (nI to)), some (.int (nI K)), some (.int (nI now)), some (.int (nI i)), some (.int (nI x)), some (.int (nI s)), some (.int (nI p)), some (.int (nI (now + csN s))), some (.int (nI j))] [] (shC, I1, L, pX pa pb pu pw)) (fun j I1 => fQ I I1 ∧ que (wtN 1048576 Z (rlx f p s now j)) (rlx f p s now j) I1) 6 (fun j hj I1 hI => by
    obtain ⟨b1, b2⟩ := hI
    try dsimp only
    have p2 := pr_two s j
    have e1 : nI p * 6 + nI j = nI (6 * p + j) := by rw [show nI p * 6 = nI (p * 6) from nI_mul p 6, nI_add, Nat.mul_comm]
    have key : jv (d + 2) 87 182 [some (.ref 96), some (.int (nI fr)), some (.int (nI to)), some (.int (nI K)), some (.int (nI now)), some (.int (nI i)), some (.int (nI x)), some (.int (nI s)), some (.int (nI p)), some (.int (nI (now + csN s))), some (.int (nI j))] [] (shC, I1, L, pX pa pb pu pw) = jv (d + 2) 87 214 [some (.ref 96), some (.int (nI fr)), some (.int (nI to)), some (.int (nI K)), some (.int (nI now)), some (.int (nI i)), some (.int (nI x)), some (.int (nI s)), some (.int (nI p)), some (.int (nI (now + csN s))), some (.int (nI j))] [.int (nI (now + prN s j)), .int (nI (6 * p + j)), .ref 96] (shC, I1, L, pX pa pb pu pw) := by
      rw [B87_182, if_pos (show nI j < 6 from nI_lt (b := 6) hj (by decide)), e1]
      unfold prN
      by_cases q : j = s
      · rw [if_pos ((nI_eq (by omega) (by omega)).mpr q), if_pos q]
        rfl
      · rw [if_neg (fun z => q ((nI_eq (by omega) (by omega)).mp z)), if_neg q, show nI (now + csN s) + 3 = nI (now + csN s + 3) from nI_add _ 3, Nat.add_assoc]
    obtain ⟨I2, c1, c2, c3⟩ := offer_c (d := d) (L := L) (pa := pa) (pb := pb) (pu := pu) (pw := pw) (y := 6 * p + j) (n := now + prN s j) b2 (by omega) (by omega) (fun q => ⟨fun z => z.2.1, fun z => ⟨by omega, z, fun w => by
      have := rlx_le f p s now j (6 * p + j)
      have := hz _ w
      omega⟩⟩) none
    refine ⟨I2, ⟨b1.trans c1, c2.cg (wt_succ hj hp hz hn) (fun z => (rlx_succ f hj z).symm)⟩, ?_⟩
    rw [key, B87_214, jgo_some rfl c3]
    dsimp only [Option.toList_none, List.nil_append]
    rw [B87_217, nI_1]) I ⟨fQ.rfl' I, Q.cg (fun z => by unfold wtN; rw [rlx_zero]) (fun z => (rlx_zero f p s now z).symm)⟩
  refine ⟨I', a1, a2, a3.trans ?_⟩
  rw [B87_182, if_neg (by decide)]
end LEADE
