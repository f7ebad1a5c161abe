/-! RULES: lets, and one rule's verdict -/
section EVAS
variable {wI : (Nat → Nat → Int32) → (Nat → Nat → Int64) → Prop} {I0 : Nat → Nat → Int32} {L0 : Nat → Nat → Int64} {tq : Nat → Int × Int → Int × Int} {wd : Nat → Int × Int} {wo : Nat → Int × Int → Int × Int} {pa pb pu : Option Nat}
variable {nl nt nc nr : Nat} {wl : Nat → Nat} {J0 : Nat → Nat → Int32} {Lr : Nat → Nat → Int64}
/-- where the second one keeps a let's sum -/
def lnR (J : Nat → Nat → Int32) (i : Nat) : Nat := (J 27 i).toNatClampNeg
theorem prL.at {g : Nat} (h : prL g nl nt wl nc nr I0 J0 Lr) {I : Nat → Nat → Int32} (hI : ∀ c, c < 5 → I (g + 1 + c) = I0 (g + 1 + c)) : ∀ i, i < nl → ∃ n mt, mt ≤ nt ∧ I0 (g + 6) i = nI n ∧ J0 27 i = nI (lnR J0 i) ∧ lnR J0 i < 1400 ∧ rel (fun c i => I (g + 1 + c) i) (fun c i => J0 (21 + c) i) (Lr 25) i mt (wl i) 75 true (wl (i + 1)) 0 rho0 n (lnR J0 i) := by
  intro i hi
  obtain ⟨n, k, mt, a1, a2, a3, a4⟩ := h i hi
  have r := a4 (fun c i => I (g + 1 + c) i) (fun c i => J0 (21 + c) i) (Lr 25) (fun c hc i _ _ => by show I (g + 1 + c) i = _; rw [hI c hc]) (fun _ _ _ _ _ => rfl) (fun _ _ _ => rfl)
  have kb := (rel_k r).2
  have e : lnR J0 i = k := by unfold lnR; rw [a3]; exact nI_clamp (by omega)
  rw [e]
  exact ⟨n, mt, a1, a2, a3, kb, r⟩
theorem prL.lt {g : Nat} (h : prL g nl nt wl nc nr I0 J0 Lr) (hmo : ∀ i j, i ≤ j → wl i ≤ wl j) {I : Nat → Nat → Int32} (hI : ∀ c, c < 5 → I (g + 1 + c) = I0 (g + 1 + c)) : ltR (fun c i => I (g + 1 + c) i) (fun c i => J0 (21 + c) i) (Lr 25) nl wl (lnR J0) ∧ ∀ i, i < nl → ∃ n mt, mt ≤ nt ∧ rel (fun c i => I (g + 1 + c) i) (fun c i => J0 (21 + c) i) (Lr 25) i mt (wl i) 75 true (wl (i + 1)) 0 rho0 n (lnR J0 i) :=
  ⟨⟨hmo, fun i hi => by obtain ⟨n, mt, a1, a2, a3, a4, a5⟩ := h.at hI i hi; exact ⟨a4, n, mt, a5⟩⟩, fun i hi => by obtain ⟨n, mt, a1, a2, a3, a4, a5⟩ := h.at hI i hi; exact ⟨n, mt, a1, a5⟩⟩
/-- what working out lets changes -/
def lsB (I0 I : Nat → Nat → Int32) (L0 L : Nat → Nat → Int64) : Prop := (∀ k, k < 60 ∨ 82 < k → k ≠ 116 → k ≠ 120 → I k = I0 k) ∧ (∀ q, q ≠ 8 → q ≠ 10 → I 116 q = I0 116 q) ∧ (∀ k, k < 60 ∨ 82 < k → k ≠ 116 → k ≠ 117 → k ≠ 118 → k ≠ 119 → L k = L0 k)
def wS2 (wI : (Nat → Nat → Int32) → (Nat → Nat → Int64) → Prop) : Prop := ∀ I L I' L', wI I L → (∀ k, k ≠ 116 → k ≠ 120 → I' k = I k) → (∀ k, k ≠ 116 → k ≠ 117 → k ≠ 118 → k ≠ 119 → L' k = L k) → wI I' L'
theorem wS2.st (h : wS2 wI) : wSt wI := fun I L I' L' a b c => h I L I' L' a (fun k k1 _ => b k k1) (fun k k1 k2 _ _ => c k k1 k2)
/-- what the lets are -/
def svL (J0 : Nat → Nat → Int32) (Lr : Nat → Nat → Int64) (tq : Nat → Int × Int → Int × Int) (wd : Nat → Int × Int) (wo : Nat → Int × Int → Int × Int) (wl : Nat → Nat) (i : Nat) : Nat × Int × Int := ev (fun c i => J0 (21 + c) i) (Lr 25) (lnR J0) tq wd wo (wl (i + 1)) true (fun _ => 0) (lnR J0 i)
theorem lets_c38 {d : Nat} (hd : 460 ≤ d) (hw2 : wS2 wI) (hE : ∀ I L, lsB I0 I L0 L → envC 38 wI I L nt tq wd wo pa pb pu) (hnl : nl ≤ 40) (hP : prL 38 nl nt wl nc nr I0 J0 Lr) (hmo : ∀ i j, i ≤ j → wl i ≤ wl j) (h12 : wl nl ≤ 1200) (h11 : I0 38 11 = nI nl) : ∀ r i I L, i + r = nl → lsB I0 I L0 L → I 116 10 = 0 → wI I L → letC I L i (svL J0 Lr tq wd wo wl) → ∃ I' L', jv (d + 1) 142 7 [some (.ref 116), some (.ref 38), some (.int (nI i))] [] (shC, I, L, pX pa pb pu (some 38)) = some (none, (shC, I', L', pX pa pb pu (some 38))) ∧ lsB I0 I' L0 L' ∧ I' 116 10 = 1 ∧ wI I' L' ∧ letC I' L' nl (svL J0 Lr tq wd wo wl) := by
  have hH : HG = 1000000000000000000 := rfl
  intro r
  induction r with
  | zero =>
    intro i I L hi hB h10 hw hl
    have e11 : I 38 11 = nI nl := by rw [hB.1 38 (Or.inl (by decide)) (by decide) (by decide)]; exact h11
    refine ⟨j_up I 116 10 1, L, ?_, ?_, ?_, ?_, ?_⟩
    · rw [B142_7_g38, e11, if_neg (nI_nlt (by omega) (by omega)), B142_86_g38, if_pos (by decide)]
    · exact ⟨fun k a b c => by rw [j_up_cell _ b]; exact hB.1 k a b c, fun q a b => by rw [j_up_own, if_neg b]; exact hB.2.1 q a b, hB.2.2⟩
    · rw [j_up_own, if_pos rfl]
    · exact hw2 I L _ _ hw (fun k a _ => j_up_cell _ a _ _) (fun _ _ _ _ _ => rfl)
    · refine ⟨hnl, fun j hj => ?_⟩
      rw [j_up_cell _ (show 120 ≠ 116 by decide)]
      exact hl.2 j (by omega)
  | succ r ih =>
    intro i I L hi hB h10 hw hl
    have e11 : I 38 11 = nI nl := by rw [hB.1 38 (Or.inl (by decide)) (by decide) (by decide)]; exact h11
    have hI : ∀ c, c < 5 → I (38 + 1 + c) = I0 (38 + 1 + c) := fun c hc => hB.1 _ (Or.inl (by omega)) (by omega) (by omega)
    obtain ⟨n, mt, a1, a2, a3, a4, a5⟩ := hP.at hI i (by omega)
    obtain ⟨q1, q2⟩ := hP.lt hmo hI
    have e44 : I 44 i = nI n := by rw [hB.1 44 (Or.inl (by decide)) (by decide) (by decide)]; exact a2
    have hEi := hE I L hB
    have wle : wl (i + 1) ≤ 1200 := Nat.le_trans (hmo _ _ (by omega)) h12
    have cs : cSt wI I L 0 rho0 (fun _ => 0) 0 (j_up I 116 8 0) L := ⟨fun k a b => j_up_cell _ b _ _, fun q a => by rw [j_up_own, if_neg a], by rw [j_up_own, if_pos rfl]; rfl, fun _ _ _ _ => rfl, fun j hj => absurd hj (Nat.not_lt_zero _), hw2.st I L _ _ hw (fun k a => j_up_cell _ a _ _) (fun _ _ _ => rfl)⟩
    have run := (eval_c38 (m0 := i) hEi hnl q1 q2 (by omega) hl 75 (by decide) i mt (wl (i + 1)) 0 rho0 n (lnR J0 i) (Nat.le_refl _) a1 wle (by decide)).1 a5
    obtain ⟨I1, L1, t1, q, r1, r2, r3, r4, r5, r6⟩ := run (wl (i + 1)) (fun _ => 0) 0 0 d _ L (Nat.le_refl _) (by decide) (by decide) (by omega) cs
    have hbd := ((ev_bd (tq := tq) (wd := wd) (wo := wo) hnl q1 hEi.2.1 hEi.2.2.1 hEi.2.2.2.1 hEi.2.2.2.2.1 q2 (wl (i + 1))).1 i mt 75 true 0 rho0 n (lnR J0 i) (by omega) a1 a5 (wl (i + 1)) (fun _ => 0) (Nat.le_refl _) (fun j hj => absurd hj (Nat.not_lt_zero _))).1 rfl
    have r5 : nSp 0 (svL J0 Lr tq wd wo wl i).1 (svL J0 Lr tq wd wo wl i).2 q (kH 75) t1 := r5
    have hbd : fN (svL J0 Lr tq wd wo wl i).2 := hbd
    have t1b : t1 ≤ 200000 := by
      by_cases z : 0 + (svL J0 Lr tq wd wo wl i).1 ≤ 10000
      · have := (r5.2.1 z).1; omega
      · have := (r5.2.2 (by omega)).2; unfold kH at this; omega
    -- the next state
    have hB' : lsB I0 (j_up I1 120 i (if (10001 : Int32) < I1 116 8 then 10001 else I1 116 8)) L0 (j_up (j_up L1 118 i (L1 116 6)) 119 i ((j_up L1 118 i (L1 116 6)) 116 7)) := by
      refine ⟨fun k a b c => ?_, fun q a b => ?_, fun k a b c e f => ?_⟩
      · rw [j_up_cell _ c, r2.1 k a b]; exact hB.1 k a b c
      · rw [j_up_cell _ (by decide), r2.2.1 q a]; exact hB.2.1 q a b
      · rw [j_up_cell _ f, j_up_cell _ e, r2.2.2.2.1 k a b c]; exact hB.2.2 k a b c e f
    have w' := hw2 I1 L1 (j_up I1 120 i (if (10001 : Int32) < I1 116 8 then 10001 else I1 116 8)) (j_up (j_up L1 118 i (L1 116 6)) 119 i ((j_up L1 118 i (L1 116 6)) 116 7)) r2.2.2.2.2.2 (fun k _ b => j_up_cell _ b _ _) (fun k _ _ c e => by rw [j_up_cell _ e, j_up_cell _ c])
    have l' : letC (j_up I1 120 i (if (10001 : Int32) < I1 116 8 then 10001 else I1 116 8)) (j_up (j_up L1 118 i (L1 116 6)) 119 i ((j_up L1 118 i (L1 116 6)) 116 7)) (i + 1) (svL J0 Lr tq wd wo wl) := by
      refine ⟨by omega, fun j hj => ?_⟩
      by_cases z : j = i
      · subst z
        refine ⟨hbd, if 10001 < t1 then 10001 else t1, q, ?_, r5.1, ?_, ?_, fun y => ?_, fun y => ?_⟩
        · rw [j_up_own, if_pos rfl, r2.2.2.1]
          by_cases y : 10001 < t1
          · rw [if_pos y, if_pos (show (10001 : Int32) < nI t1 from nI_lt (a := 10001) y (by omega))]; rfl
          · rw [if_neg y, if_neg (show ¬ (10001 : Int32) < nI t1 from nI_nlt (a := 10001) (by omega) (by omega))]
        · rw [j_up_cell _ (by decide), j_up_own, if_pos rfl]; exact r3
        · rw [j_up_own, if_pos rfl, j_up_cell _ (by decide)]; exact r4
        · have a := r5.2.1 (by omega)
          exact ⟨by rw [if_neg (by omega)]; omega, a.2⟩
        · have a := (r5.2.2 (by omega)).1
          by_cases x : 10001 < t1
          · rw [if_pos x]
          · rw [if_neg x]; omega
      · obtain ⟨b1, x, p, b2, b3, b4, b5, b6⟩ := hl.2 j (by omega)
        refine ⟨b1, x, p, ?_, b3, ?_, ?_, b6⟩
        · rw [j_up_own, if_neg z, r2.1 120 (Or.inr (by decide)) (by decide)]; exact b2
        · rw [j_up_cell _ (by decide), j_up_own, if_neg z, r2.2.2.2.1 118 (Or.inr (by decide)) (by decide) (by decide)]; exact b4
        · rw [j_up_own, if_neg z, j_up_cell _ (by decide), r2.2.2.2.1 119 (Or.inr (by decide)) (by decide) (by decide)]; exact b5
    obtain ⟨I', L', k1, k2⟩ := ih (i + 1) _ _ (by omega) hB' (by rw [j_up_cell _ (by decide), r2.2.1 10 (by decide)]; exact h10) w' l'
    refine ⟨I', L', ?_, k2⟩
    have j40 : j_in (nI i) 40 = true := j_in_nI (by omega) (by decide)
    rw [B142_7_g38, e11, if_pos (nI_lt (by omega) (by omega)), if_pos (show nI i < (40 : Int32) from nI_lt (b := 40) (by omega) (by decide)), if_pos h10, if_pos j40, nI_clamp (by omega), j_up_cell _ (by decide), e44]
    rw [jgo_some (d := d) rfl r1]
    dsimp only [Option.toList_some, Option.toList_none, List.cons_append, List.nil_append]
    rw [B142_44_g38, if_pos j40, if_pos j40, if_pos j40, nI_clamp (by omega), show nI i + 1 = nI (i + 1) from nI_add i 1]
    exact k1
theorem lets_c49 {d : Nat} (hd : 460 ≤ d) (hw2 : wS2 wI) (hE : ∀ I L, lsB I0 I L0 L → envC 49 wI I L nt tq wd wo pa pb pu) (hnl : nl ≤ 40) (hP : prL 49 nl nt wl nc nr I0 J0 Lr) (hmo : ∀ i j, i ≤ j → wl i ≤ wl j) (h12 : wl nl ≤ 1200) (h11 : I0 49 11 = nI nl) : ∀ r i I L, i + r = nl → lsB I0 I L0 L → I 116 10 = 0 → wI I L → letC I L i (svL J0 Lr tq wd wo wl) → ∃ I' L', jv (d + 1) 142 7 [some (.ref 116), some (.ref 49), some (.int (nI i))] [] (shC, I, L, pX pa pb pu (some 49)) = some (none, (shC, I', L', pX pa pb pu (some 49))) ∧ lsB I0 I' L0 L' ∧ I' 116 10 = 1 ∧ wI I' L' ∧ letC I' L' nl (svL J0 Lr tq wd wo wl) := by
  have hH : HG = 1000000000000000000 := rfl
  intro r
  induction r with
  | zero =>
    intro i I L hi hB h10 hw hl
    have e11 : I 49 11 = nI nl := by rw [hB.1 49 (Or.inl (by decide)) (by decide) (by decide)]; exact h11
    refine ⟨j_up I 116 10 1, L, ?_, ?_, ?_, ?_, ?_⟩
    · rw [B142_7_g49, e11, if_neg (nI_nlt (by omega) (by omega)), B142_86_g49, if_pos (by decide)]
    · exact ⟨fun k a b c => by rw [j_up_cell _ b]; exact hB.1 k a b c, fun q a b => by rw [j_up_own, if_neg b]; exact hB.2.1 q a b, hB.2.2⟩
    · rw [j_up_own, if_pos rfl]
    · exact hw2 I L _ _ hw (fun k a _ => j_up_cell _ a _ _) (fun _ _ _ _ _ => rfl)
    · refine ⟨hnl, fun j hj => ?_⟩
      rw [j_up_cell _ (show 120 ≠ 116 by decide)]
      exact hl.2 j (by omega)
  | succ r ih =>
    intro i I L hi hB h10 hw hl
    have e11 : I 49 11 = nI nl := by rw [hB.1 49 (Or.inl (by decide)) (by decide) (by decide)]; exact h11
    have hI : ∀ c, c < 5 → I (49 + 1 + c) = I0 (49 + 1 + c) := fun c hc => hB.1 _ (Or.inl (by omega)) (by omega) (by omega)
    obtain ⟨n, mt, a1, a2, a3, a4, a5⟩ := hP.at hI i (by omega)
    obtain ⟨q1, q2⟩ := hP.lt hmo hI
    have e44 : I 55 i = nI n := by rw [hB.1 55 (Or.inl (by decide)) (by decide) (by decide)]; exact a2
    have hEi := hE I L hB
    have wle : wl (i + 1) ≤ 1200 := Nat.le_trans (hmo _ _ (by omega)) h12
    have cs : cSt wI I L 0 rho0 (fun _ => 0) 0 (j_up I 116 8 0) L := ⟨fun k a b => j_up_cell _ b _ _, fun q a => by rw [j_up_own, if_neg a], by rw [j_up_own, if_pos rfl]; rfl, fun _ _ _ _ => rfl, fun j hj => absurd hj (Nat.not_lt_zero _), hw2.st I L _ _ hw (fun k a => j_up_cell _ a _ _) (fun _ _ _ => rfl)⟩
    have run := (eval_c49 (m0 := i) hEi hnl q1 q2 (by omega) hl 75 (by decide) i mt (wl (i + 1)) 0 rho0 n (lnR J0 i) (Nat.le_refl _) a1 wle (by decide)).1 a5
    obtain ⟨I1, L1, t1, q, r1, r2, r3, r4, r5, r6⟩ := run (wl (i + 1)) (fun _ => 0) 0 0 d _ L (Nat.le_refl _) (by decide) (by decide) (by omega) cs
    have hbd := ((ev_bd (tq := tq) (wd := wd) (wo := wo) hnl q1 hEi.2.1 hEi.2.2.1 hEi.2.2.2.1 hEi.2.2.2.2.1 q2 (wl (i + 1))).1 i mt 75 true 0 rho0 n (lnR J0 i) (by omega) a1 a5 (wl (i + 1)) (fun _ => 0) (Nat.le_refl _) (fun j hj => absurd hj (Nat.not_lt_zero _))).1 rfl
    have r5 : nSp 0 (svL J0 Lr tq wd wo wl i).1 (svL J0 Lr tq wd wo wl i).2 q (kH 75) t1 := r5
    have hbd : fN (svL J0 Lr tq wd wo wl i).2 := hbd
    have t1b : t1 ≤ 200000 := by
      by_cases z : 0 + (svL J0 Lr tq wd wo wl i).1 ≤ 10000
      · have := (r5.2.1 z).1; omega
      · have := (r5.2.2 (by omega)).2; unfold kH at this; omega
    -- the next state
    have hB' : lsB I0 (j_up I1 120 i (if (10001 : Int32) < I1 116 8 then 10001 else I1 116 8)) L0 (j_up (j_up L1 118 i (L1 116 6)) 119 i ((j_up L1 118 i (L1 116 6)) 116 7)) := by
      refine ⟨fun k a b c => ?_, fun q a b => ?_, fun k a b c e f => ?_⟩
      · rw [j_up_cell _ c, r2.1 k a b]; exact hB.1 k a b c
      · rw [j_up_cell _ (by decide), r2.2.1 q a]; exact hB.2.1 q a b
      · rw [j_up_cell _ f, j_up_cell _ e, r2.2.2.2.1 k a b c]; exact hB.2.2 k a b c e f
    have w' := hw2 I1 L1 (j_up I1 120 i (if (10001 : Int32) < I1 116 8 then 10001 else I1 116 8)) (j_up (j_up L1 118 i (L1 116 6)) 119 i ((j_up L1 118 i (L1 116 6)) 116 7)) r2.2.2.2.2.2 (fun k _ b => j_up_cell _ b _ _) (fun k _ _ c e => by rw [j_up_cell _ e, j_up_cell _ c])
    have l' : letC (j_up I1 120 i (if (10001 : Int32) < I1 116 8 then 10001 else I1 116 8)) (j_up (j_up L1 118 i (L1 116 6)) 119 i ((j_up L1 118 i (L1 116 6)) 116 7)) (i + 1) (svL J0 Lr tq wd wo wl) := by
      refine ⟨by omega, fun j hj => ?_⟩
      by_cases z : j = i
      · subst z
        refine ⟨hbd, if 10001 < t1 then 10001 else t1, q, ?_, r5.1, ?_, ?_, fun y => ?_, fun y => ?_⟩
        · rw [j_up_own, if_pos rfl, r2.2.2.1]
          by_cases y : 10001 < t1
          · rw [if_pos y, if_pos (show (10001 : Int32) < nI t1 from nI_lt (a := 10001) y (by omega))]; rfl
          · rw [if_neg y, if_neg (show ¬ (10001 : Int32) < nI t1 from nI_nlt (a := 10001) (by omega) (by omega))]
        · rw [j_up_cell _ (by decide), j_up_own, if_pos rfl]; exact r3
        · rw [j_up_own, if_pos rfl, j_up_cell _ (by decide)]; exact r4
        · have a := r5.2.1 (by omega)
          exact ⟨by rw [if_neg (by omega)]; omega, a.2⟩
        · have a := (r5.2.2 (by omega)).1
          by_cases x : 10001 < t1
          · rw [if_pos x]
          · rw [if_neg x]; omega
      · obtain ⟨b1, x, p, b2, b3, b4, b5, b6⟩ := hl.2 j (by omega)
        refine ⟨b1, x, p, ?_, b3, ?_, ?_, b6⟩
        · rw [j_up_own, if_neg z, r2.1 120 (Or.inr (by decide)) (by decide)]; exact b2
        · rw [j_up_cell _ (by decide), j_up_own, if_neg z, r2.2.2.2.1 118 (Or.inr (by decide)) (by decide) (by decide)]; exact b4
        · rw [j_up_own, if_neg z, j_up_cell _ (by decide), r2.2.2.2.1 119 (Or.inr (by decide)) (by decide) (by decide)]; exact b5
    obtain ⟨I', L', k1, k2⟩ := ih (i + 1) _ _ (by omega) hB' (by rw [j_up_cell _ (by decide), r2.2.1 10 (by decide)]; exact h10) w' l'
    refine ⟨I', L', ?_, k2⟩
    have j40 : j_in (nI i) 40 = true := j_in_nI (by omega) (by decide)
    rw [B142_7_g49, e11, if_pos (nI_lt (by omega) (by omega)), if_pos (show nI i < (40 : Int32) from nI_lt (b := 40) (by omega) (by decide)), if_pos h10, if_pos j40, nI_clamp (by omega), j_up_cell _ (by decide), e44]
    rw [jgo_some (d := d) rfl r1]
    dsimp only [Option.toList_some, Option.toList_none, List.cons_append, List.nil_append]
    rw [B142_44_g49, if_pos j40, if_pos j40, if_pos j40, nI_clamp (by omega), show nI i + 1 = nI (i + 1) from nI_add i 1]
    exact k1
end EVAS
