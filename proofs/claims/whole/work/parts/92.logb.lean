/-! LOG: a record is written in both -/
section LOGB
variable {d e : Nat} {L L' : Nat → Nat → Int64} {pa pb pu pw : Option Nat}
theorem adF_old (F : Nat → Int32) {n i : Nat} (v : Int32) (k : Nat) (h : i < n) : adF F n v k i = F i := if_neg (by omega)
theorem adF_new (F : Nat → Int32) {n j k : Nat} (v : Int32) (h : j < k) : adF F n v k (n + j) = bW v (k - 1 - j) := by
  unfold adF
  rw [if_pos (by omega), show n + j - n = j by omega]
theorem nm_old {F : Nat → Int32} {n a k : Nat} (v : Int32) (m : Nat) (h : a + k ≤ n) : nmV (adF F n v m) a k = nmV F a k := nmV_cg (fun j hj => adF_old F v m (by omega))
theorem at1_c {I : Nat → Nat → Int32} {x : Nat} (hx : x < 1189) : jv d 49 0 [some (.ref 1), some (.int (nI x))] [] (shC, I, L, pX pa pb pu pw) = some (some (.int (I 2 x)), (shC, I, L, pX pa pb pu pw)) := by
  rw [B49_0_o1, if_neg (nI_pos (by omega)), if_pos (show nI x < 1189 from nI_lt (b := 1189) hx (by decide)), if_pos (j_in_nI hx (by decide)), nI_clamp (by omega), B49_21_o1]
theorem at3_c {I : Nat → Nat → Int32} {x : Nat} (hx : x < 1189) : jv d 49 0 [some (.ref 3), some (.int (nI x))] [] (shC, I, L, pX pa pb pu pw) = some (some (.int (I 4 x)), (shC, I, L, pX pa pb pu pw)) := by
  rw [B49_0_o3, if_neg (nI_pos (by omega)), if_pos (show nI x < 1189 from nI_lt (b := 1189) hx (by decide)), if_pos (j_in_nI hx (by decide)), nI_clamp (by omega), B49_21_o3]
/-- how many places below x are changed -/
noncomputable def chN (a b : Nat → Int32) (x : Nat) : Nat := cnN (fun q => a q ≠ b q) x
theorem chN_yes {a b : Nat → Int32} {x : Nat} (h : a x ≠ b x) : chN a b (x + 1) = chN a b x + 1 := by
  show cnN _ x + @ite _ _ (Classical.propDecidable _) 1 0 = _
  rw [if_pos h]
  rfl
theorem chN_no {a b : Nat → Int32} {x : Nat} (h : ¬ a x ≠ b x) : chN a b (x + 1) = chN a b x := by
  show cnN _ x + @ite _ _ (Classical.propDecidable _) 1 0 = _
  rw [if_neg h]
  rfl
theorem chN_le (a b : Nat → Int32) (x : Nat) : chN a b x ≤ x := cnN_le _ x
theorem chN_mono {a b : Nat → Int32} {x y : Nat} (h : x ≤ y) : chN a b x ≤ chN a b y := by
  induction h with
  | refl => exact Nat.le_refl _
  | step _ ih =>
    refine Nat.le_trans ih ?_
    show _ ≤ cnN _ _ + @ite _ _ (Classical.propDecidable _) 1 0
    exact Nat.le_add_right _ _
/-- what a record says, as far as x -/
def recP (F : Nat → Int32) (s : Nat) (a b : Nat → Int32) (x : Nat) : Prop := ∀ y, y < x → a y ≠ b y → nmV F (s + 4 + 6 * chN a b y) 2 = nI y ∧ nmV F (s + 4 + 6 * chN a b y + 2) 4 = b y
section CNT
variable {I J : Nat → Nat → Int32} {a b : Nat → Int32}
theorem cnt_c (hI : ∀ q, q < 1189 → I 2 q = a q) (hI4 : ∀ q, q < 1189 → I 4 q = b q) (l1 : Int32) : jv (d + 1) 39 6 [some (.ref 23), some (.int l1), some (.ref 1), some (.ref 3), some (.int (nI 0)), some (.int (nI 0))] [] (shC, I, L, pX pa pb pu pw) = jv (d + 1) 39 6 [some (.ref 23), some (.int l1), some (.ref 1), some (.ref 3), some (.int (nI (chN a b 1189))), some (.int (nI 1189))] [] (shC, I, L, pX pa pb pu pw) := by
  have key := j_run (fun x => jv (d + 1) 39 6 [some (.ref 23), some (.int l1), some (.ref 1), some (.ref 3), some (.int (nI (chN a b x))), some (.int (nI x))] [] (shC, I, L, pX pa pb pu pw)) 1189 (fun x hx => by
    rw [B39_6, if_pos (show nI x < 1189 from nI_lt (b := 1189) hx (by decide)), jgo_some rfl (at1_c hx), hI x hx]
    dsimp only [Option.toList_some, List.cons_append, List.nil_append]
    rw [B39_22, jgo_some rfl (at3_c hx), hI4 x hx]
    dsimp only [Option.toList_some, List.cons_append, List.nil_append]
    rw [B39_28]
    by_cases q : a x = b x
    · rw [if_pos q, B39_36, nI_1, chN_no (fun z => z q), show nI (chN a b x) + 0 = nI (chN a b x + 0) from nI_add _ 0]
      rfl
    · rw [if_neg q, B39_36, nI_1, chN_yes q, nI_1])
  exact key
theorem cnt_r (hJ : ∀ q, q < 1189 → J 6 q = a q) (hJ7 : ∀ q, q < 1189 → J 7 q = b q) (l1 l2 l3 : Int32) : jv e 230 77 [some (.ref 0), some (.int l1), some (.int l2), some (.int l3), some (.int (nI 0)), some (.int (nI 0))] [] (shR, J, L', pR) = jv e 230 77 [some (.ref 0), some (.int l1), some (.int l2), some (.int l3), some (.int (nI (chN a b 1189))), some (.int (nI 1189))] [] (shR, J, L', pR) := by
  have key := j_run (fun x => jv e 230 77 [some (.ref 0), some (.int l1), some (.int l2), some (.int l3), some (.int (nI (chN a b x))), some (.int (nI x))] [] (shR, J, L', pR)) 1189 (fun x hx => by
    rw [B230_77, if_pos (show nI x < 1189 from nI_lt (b := 1189) hx (by decide)), if_pos (j_in_nI hx (by decide)), if_pos (j_in_nI hx (by decide)), nI_clamp (n := x) (by omega), hJ x hx, hJ7 x hx]
    by_cases q : a x = b x
    · rw [if_pos q.symm, B230_109, nI_1, chN_no (fun z => z q), show nI (chN a b x) + 0 = nI (chN a b x + 0) from nI_add _ 0]
      rfl
    · rw [if_neg (fun z => q z.symm), B230_109, nI_1, chN_yes q, nI_1])
  exact key
end CNT
def rcSt : Type := (Nat → Int32) × (Nat → Nat → Int32) × (Nat → Nat → Int32)
/-- a row with a change below x -/
def chR (a b : Nat → Int32) (x r : Nat) : Prop := ∃ y, y < x ∧ a y ≠ b y ∧ rowN.getD y 0 = r
def mkR (a b : Nat → Int32) (x c : Nat) (g g' : Nat → Int32) : Prop := ∀ r, r < 148 → (chR a b x r → g' r = nI c) ∧ (¬ chR a b x r → g' r = g r)
theorem chR_no {a b : Nat → Int32} {x r : Nat} (h : a x = b x) : chR a b (x + 1) r ↔ chR a b x r := by
  constructor
  · rintro ⟨y, h1, h2, h3⟩
    refine ⟨y, ?_, h2, h3⟩
    by_cases q : y = x
    · subst q; exact absurd h h2
    · omega
  · rintro ⟨y, h1, h2, h3⟩
    exact ⟨y, by omega, h2, h3⟩
theorem chR_yes {a b : Nat → Int32} {x r : Nat} (h : a x ≠ b x) : chR a b (x + 1) r ↔ chR a b x r ∨ r = rowN.getD x 0 := by
  constructor
  · rintro ⟨y, h1, h2, h3⟩
    by_cases q : y = x
    · subst q; exact Or.inr h3.symm
    · exact Or.inl ⟨y, by omega, h2, h3⟩
  · rintro (⟨y, h1, h2, h3⟩ | h1)
    · exact ⟨y, by omega, h2, h3⟩
    · exact ⟨x, by omega, h, h1.symm⟩
theorem rowN_lt (q : Nat) (_ : q < 1189) : rowN.getD q 0 < 148 := by
  have h : ∀ v ∈ rowN, v < 148 := by decide +kernel
  rw [List.getD_eq_getElem?_getD]
  cases e : rowN[q]? with
  | none => decide
  | some v => exact h v (List.mem_of_getElem? e)
/-- the changes, place by place -/
theorem chg_sim {I J : Nat → Nat → Int32} {a b F : Nat → Int32} {s c : Nat} (hr : rCst J) (hI : ∀ q, q < 1189 → I 2 q = a q) (hI4 : ∀ q, q < 1189 → I 4 q = b q) (hJ : ∀ q, q < 1189 → J 6 q = a q) (hJ7 : ∀ q, q < 1189 → J 7 q = b q) (h15 : J 0 15 = nI c) (hl : lgR (s + 4) F I J) (hs : s + 5 + 6 * chN a b 1189 ≤ 40000) (l1 l4 m1 m2 m3 m4 : Int32) : ∃ F' I' J', lgR (s + 4 + 6 * chN a b 1189) F' I' J' ∧ (∀ i, i < s + 4 → F' i = F i) ∧ recP F' s a b 1189 ∧ (∀ k, k ≠ 24 → k ≠ 23 → I' k = I k) ∧ (∀ f, f ≠ 1 → I' 23 f = I 23 f) ∧ (∀ k, k ≠ 0 → k ≠ 6 → k ≠ 15 → k ≠ 16 → J' k = J k) ∧ (∀ g, g ≠ 17 → J' 0 g = J 0 g) ∧ (∀ q, q < 1189 → J' 6 q = b q) ∧ mkR a b 1189 c (J 15) (J' 15) ∧ jv (d + 2) 39 82 [some (.ref 23), some (.int l1), some (.ref 1), some (.ref 3), some (.int l4), some (.int (nI 0))] [] (shC, I, L, pX pa pb pu pw) = jv (d + 2) 39 82 [some (.ref 23), some (.int l1), some (.ref 1), some (.ref 3), some (.int l4), some (.int (nI 1189))] [] (shC, I', L, pX pa pb pu pw) ∧ jv (e + 2) 230 187 [some (.ref 0), some (.int m1), some (.int m2), some (.int m3), some (.int m4), some (.int (nI 0))] [] (shR, J, L', pR) = jv (e + 2) 230 187 [some (.ref 0), some (.int m1), some (.int m2), some (.int m3), some (.int m4), some (.int (nI 1189))] [] (shR, J', L', pR) := by
  obtain ⟨⟨F', I', J'⟩, ⟨a1, a2, a3, a4, a5, a6, a7, a8, a9⟩, k1, k2⟩ := j_run2 (α := rcSt) (fun x t => jv (d + 2) 39 82 [some (.ref 23), some (.int l1), some (.ref 1), some (.ref 3), some (.int l4), some (.int (nI x))] [] (shC, t.2.1, L, pX pa pb pu pw)) (fun x t => jv (e + 2) 230 187 [some (.ref 0), some (.int m1), some (.int m2), some (.int m3), some (.int m4), some (.int (nI x))] [] (shR, t.2.2, L', pR)) (fun x t => lgR (s + 4 + 6 * chN a b x) t.1 t.2.1 t.2.2 ∧ (∀ i, i < s + 4 → t.1 i = F i) ∧ recP t.1 s a b x ∧ (∀ k, k ≠ 24 → k ≠ 23 → t.2.1 k = I k) ∧ (∀ f, f ≠ 1 → t.2.1 23 f = I 23 f) ∧ (∀ k, k ≠ 0 → k ≠ 6 → k ≠ 15 → k ≠ 16 → t.2.2 k = J k) ∧ (∀ g, g ≠ 17 → t.2.2 0 g = J 0 g) ∧ (∀ q, q < 1189 → t.2.2 6 q = if q < x then b q else a q) ∧ mkR a b x c (J 15) (t.2.2 15)) 1189 (fun x hx t ht => by
    obtain ⟨G, I1, J1⟩ := t
    obtain ⟨a1, a2, a3, a4, a5, a6, a7, a8, a9⟩ := ht
    dsimp only at a1 a2 a3 a4 a5 a6 a7 a8 a9 ⊢
    have i2 : I1 2 x = a x := by rw [a4 2 (by decide) (by decide)]; exact hI x hx
    have i4 : I1 4 x = b x := by rw [a4 4 (by decide) (by decide)]; exact hI4 x hx
    have j7 : J1 7 x = b x := by rw [a6 7 (by decide) (by decide) (by decide) (by decide)]; exact hJ7 x hx
    have j6 : J1 6 x = a x := by rw [a8 x hx, if_neg (Nat.lt_irrefl _)]
    have jx : j_in (nI x) 1189 = true := j_in_nI hx (by decide)
    rw [B39_82, if_pos (show nI x < 1189 from nI_lt (b := 1189) hx (by decide)), jgo_some rfl (at1_c hx), i2]
    dsimp only [Option.toList_some, List.cons_append, List.nil_append]
    rw [B39_96, jgo_some rfl (at3_c hx), i4]
    dsimp only [Option.toList_some, List.cons_append, List.nil_append]
    rw [B39_102, B230_187, if_pos (show nI x < 1189 from nI_lt (b := 1189) hx (by decide)), if_pos jx, if_pos jx, nI_clamp (n := x) (by omega), j7, j6]
    by_cases q : a x = b x
    · rw [if_pos q, if_pos q.symm, B39_123, B230_261, nI_1]
      refine ⟨(G, I1, J1), ⟨by dsimp only; rw [chN_no (fun z => z q)]; exact a1, a2, fun y hy hn => ?_, a4, a5, a6, a7, fun y hy => ?_, fun r hr => ?_⟩, rfl, rfl⟩
      · by_cases z : y = x
        · subst z; exact absurd q hn
        · exact a3 y (by omega) hn
      · dsimp only
        rw [a8 y hy]
        by_cases z : y = x
        · subst z; rw [if_neg (Nat.lt_irrefl _), if_pos (by omega), q]
        · by_cases z2 : y < x
          · rw [if_pos z2, if_pos (by omega)]
          · rw [if_neg z2, if_neg (by omega)]
      · rw [chR_no q]
        exact a9 r hr
    · have cm : chN a b x + 1 ≤ chN a b 1189 := by rw [← chN_yes q]; exact chN_mono (by omega)
      rw [if_neg q, if_neg (fun z => q z.symm)]
      generalize hn : s + 4 + 6 * chN a b x = n at a1
      obtain ⟨I2, J2, b1, b2, b3, b4⟩ := add_sim (d := d + 1) (e := e + 1) (L := L) (L' := L') (pa := pa) (pb := pb) (pu := pu) (pw := pw) (k := 2) (nI x) a1 (by decide) (by omega)
      obtain ⟨I3, J3, c1, c2, c3, c4⟩ := add_sim (d := d + 1) (e := e + 1) (L := L) (L' := L') (pa := pa) (pb := pb) (pu := pu) (pw := pw) (k := 4) (b x) b1 (by decide) (by omega)
      have i24 : I2 4 x = b x := by rw [b2.1 4 (by decide) (by decide)]; exact i4
      have j27 : J2 7 x = b x := by rw [b2.2.2.1 7 (by decide) (by decide)]; exact j7
      have j37 : J3 7 x = b x := by rw [c2.2.2.1 7 (by decide) (by decide)]; exact j27
      have j35 : J3 5 x = nI (rowN.getD x 0) := by rw [c2.2.2.1 5 (by decide) (by decide), b2.2.2.1 5 (by decide) (by decide), a6 5 (by decide) (by decide) (by decide) (by decide)]; exact hr.2.2.2.2 x hx
      have j315 : J3 0 15 = nI c := by rw [c2.2.2.2 15 (by decide), b2.2.2.2 15 (by decide), a7 15 (by decide)]; exact h15
      have rl := rowN_lt x hx
      rw [show (2 : Int32) = nI 2 from rfl, jgo_some (k' := 40) rfl b3, jgo_some (k' := 231) rfl b4]
      dsimp only [Option.toList_none, List.nil_append]
      rw [B39_112, jgo_some rfl (at3_c hx), i24]
      dsimp only [Option.toList_some, List.cons_append, List.nil_append]
      rw [B39_119, show (4 : Int32) = nI 4 from rfl, jgo_some (k' := 40) rfl c3, B230_219, if_pos jx, nI_clamp (n := x) (by omega), j27, show (4 : Int32) = nI 4 from rfl, jgo_some (k' := 231) rfl c4]
      dsimp only [Option.toList_none, List.nil_append]
      rw [B39_123, nI_1, B230_231, if_pos jx, if_pos jx, if_pos jx, nI_clamp (n := x) (by omega), j37, j_up_cell _ (by decide : 5 ≠ 6), j35, if_pos (j_in_nI rl (by decide)), nI_clamp (n := rowN.getD x 0) (by omega), j_up_cell _ (by decide : 0 ≠ 6), j315, B230_261, nI_1]
      refine ⟨(adF (adF G n (nI x) 2) (n + 2) (b x) 4, I3, j_up (j_up J3 6 x (b x)) 15 (rowN.getD x 0) (nI c)), ⟨⟨?_, ?_, ?_, ?_⟩, ?_, ?_, ?_, ?_, ?_, ?_, ?_, ?_⟩, rfl, rfl⟩
      · rw [chN_yes q]; omega
      · dsimp only
        rw [c1.2.1, chN_yes q]
        congr 1
        omega
      · dsimp only
        rw [j_up_cell _ (by decide), j_up_cell _ (by decide), c1.2.2.1, chN_yes q]
        congr 1
        omega
      · intro i hi
        dsimp only
        rw [chN_yes q] at hi
        rw [j_up_cell _ (by decide), j_up_cell _ (by decide)]
        exact c1.2.2.2 i (by omega)
      · intro i hi
        dsimp only
        rw [adF_old _ _ _ (by omega), adF_old _ _ _ (by omega)]
        exact a2 i hi
      · intro y hy hne
        dsimp only
        by_cases z : y = x
        · subst z
          rw [hn]
          refine ⟨nmV_2 (by omega) (fun j hj => ?_), nmV_4 (fun j hj => ?_)⟩
          · rw [adF_old _ _ _ (by omega)]
            exact adF_new G (nI y) hj
          · exact adF_new _ (b y) hj
        · have cy : chN a b y + 1 ≤ chN a b x := by rw [← chN_yes hne]; exact chN_mono (by omega)
          obtain ⟨p1, p2⟩ := a3 y (by omega) hne
          rw [nm_old _ _ (by omega), nm_old _ _ (by omega), nm_old _ _ (by omega), nm_old _ _ (by omega)]
          exact ⟨p1, p2⟩
      · intro k h1 h2
        dsimp only
        rw [c2.1 k h1 h2, b2.1 k h1 h2, a4 k h1 h2]
      · intro f h1
        dsimp only
        rw [c2.2.1 f h1, b2.2.1 f h1, a5 f h1]
      · intro k h1 h2 h3 h4
        dsimp only
        rw [j_up_cell _ h3, j_up_cell _ h2, c2.2.2.1 k h4 h1, b2.2.2.1 k h4 h1, a6 k h1 h2 h3 h4]
      · intro g h1
        dsimp only
        rw [j_up_cell _ (by decide), j_up_cell _ (by decide), c2.2.2.2 g h1, b2.2.2.2 g h1, a7 g h1]
      · intro y hy
        dsimp only
        rw [j_up_cell _ (by decide), j_up_own, c2.2.2.1 6 (by decide) (by decide), b2.2.2.1 6 (by decide) (by decide), a8 y hy]
        by_cases z : y = x
        · subst z; rw [if_pos rfl, if_pos (by omega)]
        · rw [if_neg z]
          by_cases z2 : y < x
          · rw [if_pos z2, if_pos (by omega)]
          · rw [if_neg z2, if_neg (by omega)]
      · intro r hr'
        dsimp only
        rw [chR_yes q, j_up_own, j_up_cell _ (by decide), c2.2.2.1 15 (by decide) (by decide), b2.2.2.1 15 (by decide) (by decide)]
        by_cases z : r = rowN.getD x 0
        · rw [if_pos z]
          exact ⟨fun _ => rfl, fun w => absurd (Or.inr z) w⟩
        · rw [if_neg z]
          refine ⟨fun w => (a9 r hr').1 (w.resolve_right z), fun w => (a9 r hr').2 (fun v => w (Or.inl v))⟩) (F, I, J) ⟨by show lgR (s + 4 + 6 * chN a b 0) F I J; exact hl, fun _ _ => rfl, fun y hy => absurd hy (Nat.not_lt_zero _), fun _ _ _ => rfl, fun _ _ => rfl, fun _ _ _ _ _ => rfl, fun _ _ => rfl, fun y hy => by dsimp only; rw [if_neg (Nat.not_lt_zero _)]; exact hJ y hy, fun r hr' => ⟨fun ⟨y, h1, _⟩ => absurd h1 (Nat.not_lt_zero _), fun _ => rfl⟩⟩
  dsimp only at a1 a2 a3 a4 a5 a6 a7 a8 a9 k1 k2
  exact ⟨F', I', J', a1, a2, a3, a4, a5, a6, a7, fun y hy => by rw [a8 y hy, if_pos hy], a9, k1, k2⟩
end LOGB
