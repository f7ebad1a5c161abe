/-! RULES: the first one works out sums and conditions -/
section EVAE
variable {wI : (Nat → Nat → Int32) → (Nat → Nat → Int64) → Prop} {I0 : Nat → Nat → Int32} {L0 : Nat → Nat → Int64} {R : Nat → Nat → Int32} {V : Nat → Int64} {ln : Nat → Nat} {tq : Nat → Int × Int → Int × Int} {wd : Nat → Int × Int} {wo : Nat → Int × Int → Int × Int} {pa pb pu : Option Nat}
/-- the first one under way: t steps taken, s counters about -/
def cSt (wI : (Nat → Nat → Int32) → (Nat → Nat → Int64) → Prop) (I0 : Nat → Nat → Int32) (L0 : Nat → Nat → Int64) (s : Nat) (rho : Nat → Nat) (c : Nat → Int) (t : Nat) (I : Nat → Nat → Int32) (L : Nat → Nat → Int64) : Prop := (∀ k, k < 60 ∨ 82 < k → k ≠ 116 → I k = I0 k) ∧ (∀ q, q ≠ 8 → I 116 q = I0 116 q) ∧ I 116 8 = nI t ∧ (∀ k, k < 60 ∨ 82 < k → k ≠ 116 → k ≠ 117 → L k = L0 k) ∧ (∀ i, i < s → L 117 i = lI (c (rho i)) ∧ fB (c (rho i))) ∧ wI I L
/-- what the yard's words ask of what is about hangs on other cells -/
def wSt (wI : (Nat → Nat → Int32) → (Nat → Nat → Int64) → Prop) : Prop := ∀ I L I' L', wI I L → (∀ k, k ≠ 116 → I' k = I k) → (∀ k, k ≠ 116 → k ≠ 117 → L' k = L k) → wI I' L'
variable {s : Nat} {rho : Nat → Nat} {c : Nat → Int} {t : Nat} {I : Nat → Nat → Int32} {L : Nat → Nat → Int64}
theorem cSt.tk (hw : wSt wI) (h : cSt wI I0 L0 s rho c t I L) (t2 : Nat) : cSt wI I0 L0 s rho c t2 (j_up I 116 8 (nI t2)) L :=
  ⟨fun k a b => by rw [j_up_cell _ b]; exact h.1 k a b, fun q a => by rw [j_up_own, if_neg a]; exact h.2.1 q a, by rw [j_up_own, if_pos rfl], h.2.2.2.1, h.2.2.2.2.1, hw I L _ _ h.2.2.2.2.2 (fun k hk => j_up_cell _ hk _ _) (fun _ _ _ => rfl)⟩
theorem cSt.fr (hw : wSt wI) (h : cSt wI I0 L0 s rho c t I L) (p : Int × Int) : cSt wI I0 L0 s rho c t I (fqC L p) :=
  ⟨h.1, h.2.1, h.2.2.1, fun k a b b' => by rw [fqC_c p b]; exact h.2.2.2.1 k a b b', fun i hi => by rw [fqC_c p (by decide)]; exact h.2.2.2.2.1 i hi, hw I L _ _ h.2.2.2.2.2 (fun _ _ => rfl) (fun k hk _ => fqC_c p hk)⟩
/-- what a number's run leaves: q the number, N steps were due -/
def nSp (t N : Nat) (p q : Int × Int) (K t' : Nat) : Prop := fN q ∧ (t + N ≤ 10000 → t' = t + N ∧ q = p) ∧ (10000 < t + N → 10000 < t' ∧ (t' ≤ t + K ∨ t' ≤ 10000 + K))
def kH (h : Nat) : Nat := 10002 + 1300 * h
theorem ov_c {d : Nat} {pw : Option Nat} (h : I 116 8 = nI t) (ht : t ≤ 1000000) : jv d 143 0 [some (.ref 116)] [] (shC, I, L, pX pa pb pu pw) = some (some (.int (if 10000 < t then 1 else 0)), (shC, I, L, pX pa pb pu pw)) := by
  rw [B143_0, h]
  by_cases q : 10000 < t
  · rw [if_pos (show (10000 : Int32) < nI t from nI_lt (a := 10000) q (by omega)), B143_15, if_pos (by decide), if_pos q]
  · rw [if_neg (show ¬ (10000 : Int32) < nI t from nI_nlt (a := 10000) (by omega) (by omega)), B143_15, if_pos (by decide), if_neg q]
/-- what the first one needs around it: lets, tables, words -/
def envC (g : Nat) (wI : (Nat → Nat → Int32) → (Nat → Nat → Int64) → Prop) (I0 : Nat → Nat → Int32) (L0 : Nat → Nat → Int64) (nt : Nat) (tq : Nat → Int × Int → Int × Int) (wd : Nat → Int × Int) (wo : Nat → Int × Int → Int × Int) (pa pb pu : Option Nat) : Prop := wSt wI ∧
  (∀ w, w < 13 → fN (wd w)) ∧ (∀ w p, w < 11 → fN (wo w p)) ∧ (∀ i p, i < nt → fN (tq i p)) ∧ nt ≤ 8 ∧
  (∀ d s rho c t I L w, 60 ≤ d → w < 13 → cSt wI I0 L0 s rho c t I L → ∃ I' L', jv d 155 0 [some (.ref 116), some (.int (nI w))] [] (shC, I, L, pX pa pb pu (some g)) = some (none, (shC, I', fqC L' (wd w), pX pa pb pu (some g))) ∧ cSt wI I0 L0 s rho c t I' L') ∧
  (∀ d s rho c t I L w p, 60 ≤ d → w < 11 → cSt wI I0 L0 s rho c t I L → fN p → L 116 6 = lI p.1 → L 116 7 = lI p.2 → ∃ I' L', jv d 157 0 [some (.ref 116), some (.int (nI (13 + w))), none, none, none, none, none, none, none, none] [] (shC, I, L, pX pa pb pu (some g)) = some (none, (shC, I', fqC L' (wo w p), pX pa pb pu (some g))) ∧ cSt wI I0 L0 s rho c t I' L') ∧
  (∀ d s rho c t I L i p, 60 ≤ d → i < nt → cSt wI I0 L0 s rho c t I L → fN p → L 116 6 = lI p.1 → L 116 7 = lI p.2 → jv d 153 0 [some (.ref 116), some (.int (nI i)), none, none, none, none, none, none, none, none] [] (shC, I, L, pX pa pb pu (some g)) = some (none, (shC, I, fqC L (tq i p), pX pa pb pu (some g))))
/-- the lets that are known: N steps, p its number -/
def letC (I0 : Nat → Nat → Int32) (L0 : Nat → Nat → Int64) (nl : Nat) (sv : Nat → Nat × Int × Int) : Prop := nl ≤ 40 ∧ ∀ i, i < nl → fN (sv i).2 ∧ (∃ x q, I0 120 i = nI x ∧ fN q ∧ L0 118 i = lI q.1 ∧ L0 119 i = lI q.2 ∧ ((sv i).1 ≤ 10000 → x = (sv i).1 ∧ q = (sv i).2) ∧ (10000 < (sv i).1 → x = 10001))
theorem fqC_e (p : Int × Int) (h6 : L 116 6 = lI p.1) (h7 : L 116 7 = lI p.2) : fqC L p = L := by
  unfold fqC
  rw [← h6, j_up_id, ← h7, j_up_id]
theorem nI_lt3 {a b : Nat} (h : a ≤ b) : max a b = b := Nat.max_eq_right h
section
theorem num_over38 {d n D : Nat} (hw : wSt wI) (h : cSt wI I0 L0 s rho c t I L) (ht : 10000 < t) (ht2 : t ≤ 1000000) (hn : n < 1201) (hD : D ≤ 150) : jv (d + 1) 147 0 [some (.ref 116), some (.int (nI n)), some (.int (nI D)), none] [] (shC, I, L, pX pa pb pu (some 38)) = some (none, (shC, I, fqC L (0, 0), pX pa pb pu (some 38))) := by
  rw [B147_0_g38, jgo_some (d := d) rfl und_c]
  dsimp only [Option.toList_some, Option.toList_none, List.cons_append, List.nil_append]
  rw [B147_4_g38, if_neg (nI_pos (by omega)), if_pos (show nI n < (1201 : Int32) from nI_lt (b := 1201) hn (by decide)), if_neg (show ¬ (150 : Int32) < nI D from nI_nlt (a := 150) (by omega) (by omega)), jgo_some (d := d) rfl (ov_c h.2.2.1 ht2), if_pos ht]
  dsimp only [Option.toList_some, Option.toList_none, List.cons_append, List.nil_append]
  rw [B147_26_g38, if_neg (by decide), B147_29_g38]
theorem num_at38 {d n D : Nat} (h : cSt wI I0 L0 s rho c t I L) (ht : t ≤ 10000) (hn : n < 1201) (hD : D ≤ 150) : jv (d + 1) 147 0 [some (.ref 116), some (.int (nI n)), some (.int (nI D)), none] [] (shC, I, L, pX pa pb pu (some 38)) = jv (d + 1) 147 26 [some (.ref 116), some (.int (nI n)), some (.int (nI D)), none] [.int 0] (shC, I, fqC L (0, 0), pX pa pb pu (some 38)) := by
  rw [B147_0_g38, jgo_some (d := d) rfl und_c]
  dsimp only [Option.toList_some, Option.toList_none, List.cons_append, List.nil_append]
  rw [B147_4_g38, if_neg (nI_pos (by omega)), if_pos (show nI n < (1201 : Int32) from nI_lt (b := 1201) hn (by decide)), if_neg (show ¬ (150 : Int32) < nI D from nI_nlt (a := 150) (by omega) (by omega)), jgo_some (d := d) rfl (ov_c h.2.2.1 (by omega)), if_neg (by omega)]
  rfl
theorem tru_at38 {d n D : Nat} (h : cSt wI I0 L0 s rho c t I L) (ht2 : t ≤ 1000000) (hn : n < 1201) (hD : D ≤ 150) : jv (d + 1) 144 0 [some (.ref 116), some (.int (nI n)), some (.int (nI D)), none] [] (shC, I, L, pX pa pb pu (some 38)) = if 10000 < t then some (some (.int 2), (shC, I, L, pX pa pb pu (some 38))) else jv (d + 1) 144 22 [some (.ref 116), some (.int (nI n)), some (.int (nI D)), none] [.int 0] (shC, I, L, pX pa pb pu (some 38)) := by
  rw [B144_0_g38, if_neg (nI_pos (by omega)), if_pos (show nI n < (1201 : Int32) from nI_lt (b := 1201) hn (by decide)), if_neg (show ¬ (150 : Int32) < nI D from nI_nlt (a := 150) (by omega) (by omega)), jgo_some (d := d) rfl (ov_c h.2.2.1 ht2)]
  dsimp only [Option.toList_some, Option.toList_none, List.cons_append, List.nil_append]
  by_cases q : 10000 < t
  · rw [if_pos q, if_pos q, B144_22_g38, if_neg (by decide), B144_25_g38]
  · rw [if_neg q, if_neg q]
end
section
theorem num_over49 {d n D : Nat} (hw : wSt wI) (h : cSt wI I0 L0 s rho c t I L) (ht : 10000 < t) (ht2 : t ≤ 1000000) (hn : n < 1201) (hD : D ≤ 150) : jv (d + 1) 147 0 [some (.ref 116), some (.int (nI n)), some (.int (nI D)), none] [] (shC, I, L, pX pa pb pu (some 49)) = some (none, (shC, I, fqC L (0, 0), pX pa pb pu (some 49))) := by
  rw [B147_0_g49, jgo_some (d := d) rfl und_c]
  dsimp only [Option.toList_some, Option.toList_none, List.cons_append, List.nil_append]
  rw [B147_4_g49, if_neg (nI_pos (by omega)), if_pos (show nI n < (1201 : Int32) from nI_lt (b := 1201) hn (by decide)), if_neg (show ¬ (150 : Int32) < nI D from nI_nlt (a := 150) (by omega) (by omega)), jgo_some (d := d) rfl (ov_c h.2.2.1 ht2), if_pos ht]
  dsimp only [Option.toList_some, Option.toList_none, List.cons_append, List.nil_append]
  rw [B147_26_g49, if_neg (by decide), B147_29_g49]
theorem num_at49 {d n D : Nat} (h : cSt wI I0 L0 s rho c t I L) (ht : t ≤ 10000) (hn : n < 1201) (hD : D ≤ 150) : jv (d + 1) 147 0 [some (.ref 116), some (.int (nI n)), some (.int (nI D)), none] [] (shC, I, L, pX pa pb pu (some 49)) = jv (d + 1) 147 26 [some (.ref 116), some (.int (nI n)), some (.int (nI D)), none] [.int 0] (shC, I, fqC L (0, 0), pX pa pb pu (some 49)) := by
  rw [B147_0_g49, jgo_some (d := d) rfl und_c]
  dsimp only [Option.toList_some, Option.toList_none, List.cons_append, List.nil_append]
  rw [B147_4_g49, if_neg (nI_pos (by omega)), if_pos (show nI n < (1201 : Int32) from nI_lt (b := 1201) hn (by decide)), if_neg (show ¬ (150 : Int32) < nI D from nI_nlt (a := 150) (by omega) (by omega)), jgo_some (d := d) rfl (ov_c h.2.2.1 (by omega)), if_neg (by omega)]
  rfl
theorem tru_at49 {d n D : Nat} (h : cSt wI I0 L0 s rho c t I L) (ht2 : t ≤ 1000000) (hn : n < 1201) (hD : D ≤ 150) : jv (d + 1) 144 0 [some (.ref 116), some (.int (nI n)), some (.int (nI D)), none] [] (shC, I, L, pX pa pb pu (some 49)) = if 10000 < t then some (some (.int 2), (shC, I, L, pX pa pb pu (some 49))) else jv (d + 1) 144 22 [some (.ref 116), some (.int (nI n)), some (.int (nI D)), none] [.int 0] (shC, I, L, pX pa pb pu (some 49)) := by
  rw [B144_0_g49, if_neg (nI_pos (by omega)), if_pos (show nI n < (1201 : Int32) from nI_lt (b := 1201) hn (by decide)), if_neg (show ¬ (150 : Int32) < nI D from nI_nlt (a := 150) (by omega) (by omega)), jgo_some (d := d) rfl (ov_c h.2.2.1 ht2)]
  dsimp only [Option.toList_some, Option.toList_none, List.cons_append, List.nil_append]
  by_cases q : 10000 < t
  · rw [if_pos q, if_pos q, B144_22_g49, if_neg (by decide), B144_25_g49]
  · rw [if_neg q, if_neg q]
end
end EVAE
