/-! SHEETS: the rests, one cell put into the row of those that wait -/
theorem smN_put {f f' : Nat → Nat} {p : Nat} (h0 : f p = 0) (h1 : f' p = 1) (h2 : ∀ i, i ≠ p → f' i = f i) {n : Nat} (hp : p < n) : smN f' n = smN f n + 1 := by
  induction n with
  | zero => omega
  | succ n ih =>
    show smN f' n + f' n = smN f n + f n + 1
    by_cases q : p = n
    · subst q
      rw [h0, h1, smN_ext (g := f) (fun i hi => h2 i (by omega))]
    · rw [ih (by omega), h2 n (fun r => q r.symm)]
      omega
def seeN (g : Nat → Nat) : Nat → Nat := fun i => if g i = 0 then 0 else 1
def putN (g : Nat → Nat) (p v : Nat) : Nat → Nat := fun i => if i = p then v else g i
theorem see_lt {g : Nat → Nat} {p : Nat} (hp : p < 3072) (h : g p = 0) : smN (seeN g) 3072 + 1 ≤ 3072 := by
  have h1 : smN (seeN (putN g p 1)) 3072 = smN (seeN g) 3072 + 1 := smN_put (p := p) (by unfold seeN; rw [if_pos h]) (by unfold seeN putN; rw [if_pos rfl]; rfl) (fun i hi => by unfold seeN putN; rw [if_neg hi]) hp
  have h2 := smN_le (seeN (putN g p 1)) 1 3072 (fun i _ => by unfold seeN; split <;> omega)
  omega
def flIn (w h n : Nat) (g : Nat → Nat) (I J : Nat → Nat → Int32) : Prop := n ≤ smN (seeN g) 3072 ∧ n ≤ 3072 ∧ (∀ i, i < 3072 → I 94 i = nI (seeN g i) ∧ J 58 i = nI (g i) ∧ g i ≤ 4000) ∧ ∀ j, j < n → ∃ x y, x < w ∧ y < h ∧ I 95 j = nI (64 * y + x) ∧ J 59 j = nI (64 * y + x)
def frC (I I' : Nat → Nat → Int32) : Prop := ∀ c, c ≠ 94 → c ≠ 95 → I' c = I c
def frR (J J' : Nat → Nat → Int32) : Prop := ∀ c, c ≠ 58 → c ≠ 59 → J' c = J c
theorem shIn.eq {w h : Nat} {o : Nat → Nat → Nat → Nat} {I J I' J' : Nat → Nat → Int32} (H : shIn w h o I J) (e1 : I' 83 3 = I 83 3) (e2 : I' 83 4 = I 83 4) (e3 : I' 90 = I 90) (e4 : J' 6 = J 6) (e5 : J' 53 = J 53) : shIn w h o I' J' := by
  unfold shIn
  rw [e1, e2, e3, e4, e5]
  exact H
theorem shIn.fr {w h : Nat} {o : Nat → Nat → Nat → Nat} {I J I' J' : Nat → Nat → Int32} (H : shIn w h o I J) (f1 : frC I I') (f2 : frR J J') : shIn w h o I' J' := H.eq (by rw [f1 83 (by decide) (by decide)]) (by rw [f1 83 (by decide) (by decide)]) (f1 90 (by decide) (by decide)) (f2 6 (by decide) (by decide)) (f2 53 (by decide) (by decide))
theorem frC.tr {I I' I'' : Nat → Nat → Int32} (a : frC I I') (b : frC I' I'') : frC I I'' := fun c x y => (b c x y).trans (a c x y)
theorem frR.tr {I I' I'' : Nat → Nat → Int32} (a : frR I I') (b : frR I' I'') : frR I I'' := fun c x y => (b c x y).trans (a c x y)
section SHEET4
variable {d e : Nat} {I J : Nat → Nat → Int32} {L L' : Nat → Nat → Int64} {pa pb pu pw : Option Nat} {K : Option Value → jS → jO} {w h : Nat} {o : Nat → Nat → Nat → Nat}
/-- the stores with one more -/
def psC (I : Nat → Nat → Int32) (p n : Nat) : Nat → Nat → Int32 := j_up (j_up I 94 p 1) 95 n (nI p)
def psR (J : Nat → Nat → Int32) (p n v : Nat) : Nat → Nat → Int32 := j_up (j_up J 58 p (nI v)) 59 n (nI p)
theorem ps_fl {n v x y : Nat} {g : Nat → Nat} (F : flIn w h n g I J) (h1 : w ≤ 64) (h2 : h ≤ 48) (hx : x < w) (hy : y < h) (hg : g (64 * y + x) = 0) (hv : 0 < v) (hv2 : v ≤ 4000) : n < 3072 ∧ flIn w h (n + 1) (putN g (64 * y + x) v) (psC I (64 * y + x) n) (psR J (64 * y + x) n v) := by
  obtain ⟨f1, f2, f3, f4⟩ := F
  have hp : 64 * y + x < 3072 := by omega
  have hl := see_lt hp hg
  have e1 : smN (seeN (putN g (64 * y + x) v)) 3072 = smN (seeN g) 3072 + 1 := smN_put (p := 64 * y + x) (by unfold seeN; rw [if_pos hg]) (by unfold seeN putN; rw [if_pos rfl, if_neg (by omega)]) (fun i hi => by unfold seeN putN; rw [if_neg hi]) hp
  refine ⟨by omega, by omega, by omega, fun i hi => ?_, fun j hj => ?_⟩
  · unfold psC psR
    rw [j_up_cell _ (by decide), j_up_own, j_up_cell _ (by decide), j_up_own]
    unfold seeN putN
    by_cases q : i = 64 * y + x
    · rw [if_pos q, if_pos q, if_pos q, if_neg (by omega)]
      exact ⟨rfl, rfl, hv2⟩
    · rw [if_neg q, if_neg q, if_neg q]
      exact f3 i hi
  · unfold psC psR
    rw [j_up_own, j_up_own]
    by_cases q : j = n
    · rw [if_pos q, if_pos q]
      exact ⟨x, y, hx, hy, rfl, rfl⟩
    · rw [if_neg q, if_neg q, j_up_cell _ (by decide), j_up_cell _ (by decide)]
      exact f4 j (by omega)
theorem psC_fr (I : Nat → Nat → Int32) (p n : Nat) : frC I (psC I p n) := fun c x y => by unfold psC; rw [j_up_cell _ y, j_up_cell _ x]
theorem psR_fr (J : Nat → Nat → Int32) (p n v : Nat) : frR J (psR J p n v) := fun c x y => by unfold psR; rw [j_up_cell _ y, j_up_cell _ x]
theorem xy_nI (x y : Nat) : nI y * 64 + nI x = nI (64 * y + x) := by
  rw [show nI y * 64 = nI (y * 64) from nI_mul y 64, nI_add, Nat.mul_comm]
theorem yx_nI (x y : Nat) : 64 * nI y + nI x = nI (64 * y + x) := by
  rw [show 64 * nI y = nI (64 * y) from nI_mul 64 y, nI_add]
/-- the class's push -/
theorem push_in {n v x y s : Nat} {g : Nat → Nat} (H : shIn w h o I J) (F : flIn w h n g I J) (hs : s < 6) (hx : x < w) (hy : y < h) (ho : o s x y = 0) (hg : g (64 * y + x) = 0) (hv : 0 < v) (hv2 : v ≤ 4000) : jv (d + 1) 129 0 [some (.ref 83), some (.int (nI s)), some (.int (nI x)), some (.int (nI y)), some (.int (nI n)), none] [] (shC, I, L, pX pa pb pu pw) = some (some (.int (nI (n + 1))), (shC, psC I (64 * y + x) n, L, pX pa pb pu pw)) := by
  obtain ⟨h1, h2, h3, h4, h5, h6, h7, h8, h9, ha, hb⟩ := id H
  have hn := (ps_fl F h1 h2 hx hy hg hv hv2).1
  have hp : 64 * y + x < 3072 := by omega
  rw [B129_0, if_neg (show ¬ nI x < 0 from nI_nlt (a := x) (b := 0) (by omega) (by omega)), h3, if_pos (nI_lt hx (by omega)), if_neg (show ¬ nI y < 0 from nI_nlt (a := y) (b := 0) (by omega) (by omega)), h4, if_pos (nI_lt hy (by omega)), if_pos (show nI n < 3072 from nI_lt (b := 3072) hn (by decide)), g_own H hs (by omega) (by omega)]
  dsimp only [Option.toList_some, List.cons_append, List.nil_append]
  rw [B129_47, ho, if_pos (show nI 0 = 0 from rfl), xy_nI, if_pos (j_in_nI hp (by decide)), nI_clamp (n := 64 * y + x) (by omega), (F.2.2.1 _ hp).1, show seeN g (64 * y + x) = 0 by unfold seeN; rw [if_pos hg], if_pos (show nI 0 = 0 from rfl), if_pos (j_in_nI hp (by decide)), if_pos (j_in_nI hn (by decide)), nI_clamp (n := n) (by omega), nI_1 n]
  rfl
theorem push_no {n s : Nat} {X Y : Int32} {g : Nat → Nat} (H : shIn w h o I J) (F : flIn w h n g I J) (hs : s < 6) (hq : ∀ x y, x < w → y < h → X = nI x → Y = nI y → o s x y = 0 → ¬ g (64 * y + x) = 0) : jv (d + 1) 129 0 [some (.ref 83), some (.int (nI s)), some (.int X), some (.int Y), some (.int (nI n)), none] [] (shC, I, L, pX pa pb pu pw) = some (some (.int (nI n)), (shC, I, L, pX pa pb pu pw)) := by
  obtain ⟨h1, h2, h3, h4, h5, h6, h7, h8, h9, ha, hb⟩ := id H
  rw [B129_0, h3, h4]
  by_cases q1 : X < 0
  · rw [if_pos q1, B129_60]
  rw [if_neg q1]
  by_cases q2 : X < nI w
  · rw [if_pos q2]
    by_cases q3 : Y < 0
    · rw [if_pos q3, B129_60]
    rw [if_neg q3]
    by_cases q4 : Y < nI h
    · rw [if_pos q4]
      by_cases q5 : nI n < 3072
      · obtain ⟨x, hx, rfl⟩ := i_small q1 q2 (by omega)
        obtain ⟨y, hy, rfl⟩ := i_small q3 q4 (by omega)
        have hp : 64 * y + x < 3072 := by omega
        rw [if_pos q5, g_own H hs (by omega) (by omega)]
        dsimp only [Option.toList_some, List.cons_append, List.nil_append]
        rw [B129_47]
        by_cases q6 : o s x y = 0
        · have hg := hq x y hx hy rfl rfl q6
          rw [if_pos (show nI (o s x y) = 0 by rw [q6]; rfl), xy_nI, if_pos (j_in_nI hp (by decide)), nI_clamp (n := 64 * y + x) (by omega), (F.2.2.1 _ hp).1, if_neg (show ¬ nI (seeN g (64 * y + x)) = 0 by unfold seeN; rw [if_neg hg]; decide), B129_60]
        · rw [if_neg (show ¬ nI (o s x y) = 0 from fun r => q6 ((nI_eq (h7 s x y) (b := 0) (by decide)).mp r)), B129_60]
      · rw [if_neg q5, B129_60]
    · rw [if_neg q4, B129_60]
  · rw [if_neg q2, B129_60]
end SHEET4
