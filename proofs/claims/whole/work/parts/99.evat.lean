/-! RULES: one rule's verdict, one let's number -/
section EVAT
variable {wI : (Nat → Nat → Int32) → (Nat → Nat → Int64) → Prop} {I0 : Nat → Nat → Int32} {L0 : Nat → Nat → Int64} {tq : Nat → Int × Int → Int × Int} {wd : Nat → Int × Int} {wo : Nat → Int × Int → Int × Int} {pa pb pu : Option Nat}
variable {nl nt nc nr : Nat} {wl : Nat → Nat} {J0 : Nat → Nat → Int32} {Lr : Nat → Nat → Int64}
variable {wJ : (Nat → Nat → Int32) → (Nat → Nat → Int64) → Prop}
/-- the verdict and the steps that both answer -/
def jg (p : Nat × Int × Int) : Int := if p.1 ≤ 10000 then p.2.1 else 2
def js (p : Nat × Int × Int) : Nat := if p.1 ≤ 10000 then p.1 else 10001
/-- what a rule is -/
def evJ (J0 : Nat → Nat → Int32) (Lr : Nat → Nat → Int64) (tq : Nat → Int × Int → Int × Int) (wd : Nat → Int × Int) (wo : Nat → Int × Int → Int × Int) (w k : Nat) : Nat × Int × Int := ev (fun c i => J0 (21 + c) i) (Lr 25) (lnR J0) tq wd wo w false (fun _ => 0) k
/-- a let's number as it is answered -/
def jl (p : Nat × Int × Int) (b : Bool) : Int64 := if p.1 ≤ 10000 ∧ p.2.2 ≠ 0 then (if b then lI p.2.1 else lI p.2.2) else -9223372036854775808
theorem judge_c38 {d u n k m mt w : Nat} (hd : 460 ≤ d) (hE : envC 38 wI I0 L0 nt tq wd wo pa pb pu) (hnl : nl ≤ 40) (hP : prL 38 nl nt wl nc nr I0 J0 Lr) (hmo : ∀ i j, i ≤ j → wl i ≤ wl j) (hsv : letC I0 L0 nl (svL J0 Lr tq wd wo wl)) (hu : u < 24) (e7 : I0 45 u = nI n) (hm : m ≤ nl) (hmt : mt ≤ nt) (hw : w ≤ 1200) (hr : rel (fun c i => I0 (38 + 1 + c) i) (fun c i => J0 (21 + c) i) (Lr 25) m mt (wl m) 75 false w 0 rho0 n k) (hwI : wI I0 L0) : ∃ I' L' t, jv (d + 1) 140 0 [some (.ref 116), some (.ref 38), some (.int (nI u)), none] [] (shC, I0, L0, pX pa pb pu (some 38)) = some (some (.int (vI (jg (evJ J0 Lr tq wd wo w k)))), (shC, I', L', pX pa pb pu (some 38))) ∧ I' 116 8 = nI (js (evJ J0 Lr tq wd wo w k)) ∧ cSt wI I0 L0 0 rho0 (fun _ => 0) t I' L' := by
  obtain ⟨q1, q2⟩ := hP.lt hmo (fun c _ => rfl)
  have hW := hE.1
  have cs : cSt wI I0 L0 0 rho0 (fun _ => 0) 0 (j_up I0 116 8 0) L0 := ⟨fun k a b => j_up_cell _ b _ _, fun q a => by rw [j_up_own, if_neg a], by rw [j_up_own, if_pos rfl]; rfl, fun _ _ _ _ => rfl, fun j hj => absurd hj (Nat.not_lt_zero _), hW I0 L0 _ _ hwI (fun k a => j_up_cell _ a _ _) (fun _ _ _ => rfl)⟩
  obtain ⟨I1, L1, t1, v, r1, r2, r5, r6⟩ := (eval_c38 (m0 := nl) hE hnl q1 q2 (Nat.le_refl _) hsv 75 (by decide) m mt w 0 rho0 n k hm hmt hw (by decide)).2 hr w (fun _ => 0) 0 0 d _ L0 (Nat.le_refl _) (by decide) (by decide) (by omega) cs
  have r5 : tSp 0 (evJ J0 Lr tq wd wo w k).1 v (evJ J0 Lr tq wd wo w k).2.1 (kH 75) t1 := r5
  have t1b : t1 ≤ 200000 := by
    by_cases z : 0 + (evJ J0 Lr tq wd wo w k).1 ≤ 10000
    · have := (r5.2.1 z).1; omega
    · have := (r5.2.2 (by omega)).2; unfold kH at this; omega
  have run : jv (d + 1) 140 0 [some (.ref 116), some (.ref 38), some (.int (nI u)), none] [] (shC, I0, L0, pX pa pb pu (some 38)) = jv (d + 1) 140 35 [some (.ref 116), some (.ref 38), some (.int (nI u)), some (.int (vI v))] [.int (if 10000 < t1 then 1 else 0)] (shC, I1, L1, pX pa pb pu (some 38)) := by
    rw [B140_0_g38, if_neg (nI_pos (by omega)), if_pos (show nI u < (24 : Int32) from nI_lt (b := 24) hu (by decide)), if_pos (j_in_nI hu (by decide)), nI_clamp (by omega), j_up_cell _ (by decide), e7]
    rw [jgo_some (d := d) rfl r1]
    dsimp only [Option.toList_some, Option.toList_none, List.cons_append, List.nil_append]
    rw [B140_26_g38, B140_30_g38, jgo_some (d := d) rfl (ov_c r2.2.2.1 (by omega))]
    rfl
  by_cases z : (evJ J0 Lr tq wd wo w k).1 ≤ 10000
  · have a := r5.2.1 (by omega)
    refine ⟨I1, L1, t1, ?_, ?_, r2⟩
    · rw [run, if_neg (by omega), B140_35_g38, if_pos rfl]
      unfold jg
      rw [if_pos z, a.2]
    · unfold js
      rw [if_pos z, r2.2.2.1, a.1, Nat.zero_add]
  · have a := r5.2.2 (by omega)
    refine ⟨j_up I1 116 8 10001, L1, 10001, ?_, ?_, r2.tk hW 10001⟩
    · rw [run, if_pos a.1, B140_35_g38, if_neg (by decide)]
      unfold jg
      rw [if_neg z]
      rfl
    · unfold js
      rw [if_neg z, j_up_own, if_pos rfl]
      rfl
theorem judge_c49 {d u n k m mt w : Nat} (hd : 460 ≤ d) (hE : envC 49 wI I0 L0 nt tq wd wo pa pb pu) (hnl : nl ≤ 40) (hP : prL 49 nl nt wl nc nr I0 J0 Lr) (hmo : ∀ i j, i ≤ j → wl i ≤ wl j) (hsv : letC I0 L0 nl (svL J0 Lr tq wd wo wl)) (hu : u < 24) (e7 : I0 56 u = nI n) (hm : m ≤ nl) (hmt : mt ≤ nt) (hw : w ≤ 1200) (hr : rel (fun c i => I0 (49 + 1 + c) i) (fun c i => J0 (21 + c) i) (Lr 25) m mt (wl m) 75 false w 0 rho0 n k) (hwI : wI I0 L0) : ∃ I' L' t, jv (d + 1) 140 0 [some (.ref 116), some (.ref 49), some (.int (nI u)), none] [] (shC, I0, L0, pX pa pb pu (some 49)) = some (some (.int (vI (jg (evJ J0 Lr tq wd wo w k)))), (shC, I', L', pX pa pb pu (some 49))) ∧ I' 116 8 = nI (js (evJ J0 Lr tq wd wo w k)) ∧ cSt wI I0 L0 0 rho0 (fun _ => 0) t I' L' := by
  obtain ⟨q1, q2⟩ := hP.lt hmo (fun c _ => rfl)
  have hW := hE.1
  have cs : cSt wI I0 L0 0 rho0 (fun _ => 0) 0 (j_up I0 116 8 0) L0 := ⟨fun k a b => j_up_cell _ b _ _, fun q a => by rw [j_up_own, if_neg a], by rw [j_up_own, if_pos rfl]; rfl, fun _ _ _ _ => rfl, fun j hj => absurd hj (Nat.not_lt_zero _), hW I0 L0 _ _ hwI (fun k a => j_up_cell _ a _ _) (fun _ _ _ => rfl)⟩
  obtain ⟨I1, L1, t1, v, r1, r2, r5, r6⟩ := (eval_c49 (m0 := nl) hE hnl q1 q2 (Nat.le_refl _) hsv 75 (by decide) m mt w 0 rho0 n k hm hmt hw (by decide)).2 hr w (fun _ => 0) 0 0 d _ L0 (Nat.le_refl _) (by decide) (by decide) (by omega) cs
  have r5 : tSp 0 (evJ J0 Lr tq wd wo w k).1 v (evJ J0 Lr tq wd wo w k).2.1 (kH 75) t1 := r5
  have t1b : t1 ≤ 200000 := by
    by_cases z : 0 + (evJ J0 Lr tq wd wo w k).1 ≤ 10000
    · have := (r5.2.1 z).1; omega
    · have := (r5.2.2 (by omega)).2; unfold kH at this; omega
  have run : jv (d + 1) 140 0 [some (.ref 116), some (.ref 49), some (.int (nI u)), none] [] (shC, I0, L0, pX pa pb pu (some 49)) = jv (d + 1) 140 35 [some (.ref 116), some (.ref 49), some (.int (nI u)), some (.int (vI v))] [.int (if 10000 < t1 then 1 else 0)] (shC, I1, L1, pX pa pb pu (some 49)) := by
    rw [B140_0_g49, if_neg (nI_pos (by omega)), if_pos (show nI u < (24 : Int32) from nI_lt (b := 24) hu (by decide)), if_pos (j_in_nI hu (by decide)), nI_clamp (by omega), j_up_cell _ (by decide), e7]
    rw [jgo_some (d := d) rfl r1]
    dsimp only [Option.toList_some, Option.toList_none, List.cons_append, List.nil_append]
    rw [B140_26_g49, B140_30_g49, jgo_some (d := d) rfl (ov_c r2.2.2.1 (by omega))]
    rfl
  by_cases z : (evJ J0 Lr tq wd wo w k).1 ≤ 10000
  · have a := r5.2.1 (by omega)
    refine ⟨I1, L1, t1, ?_, ?_, r2⟩
    · rw [run, if_neg (by omega), B140_35_g49, if_pos rfl]
      unfold jg
      rw [if_pos z, a.2]
    · unfold js
      rw [if_pos z, r2.2.2.1, a.1, Nat.zero_add]
  · have a := r5.2.2 (by omega)
    refine ⟨j_up I1 116 8 10001, L1, 10001, ?_, ?_, r2.tk hW 10001⟩
    · rw [run, if_pos a.1, B140_35_g49, if_neg (by decide)]
      unfold jg
      rw [if_neg z]
      rfl
    · unfold js
      rw [if_neg z, j_up_own, if_pos rfl]
      rfl
theorem judge_r {C : Nat → Nat → Int32} {e u n k m mt w : Nat} (he : 70 + w ≤ e) (hE : envR wJ J0 Lr nl nt (lnR J0) tq wd wo) (hnl : nl ≤ 40) (hl : ltR C (fun c i => J0 (21 + c) i) (Lr 25) nl wl (lnR J0)) (hlt : ∀ i, i < nl → ∃ n mt, mt ≤ nt ∧ rel C (fun c i => J0 (21 + c) i) (Lr 25) i mt (wl i) 75 true (wl (i + 1)) 0 rho0 n (lnR J0 i)) (hu : u < 24) (e34 : J0 34 u = nI k) (hm : m ≤ nl) (hmt : mt ≤ nt) (hr : rel C (fun c i => J0 (21 + c) i) (Lr 25) m mt (wl m) 75 false w 0 rho0 n k) (hwJ : wJ J0 Lr) : ∃ J' L' t, jv (e + 1) 295 0 [some (.ref 0), some (.int (nI u)), none] [] (shR, J0, Lr, pR) = some (some (.int (vI (jg (evJ J0 Lr tq wd wo w k)))), (shR, J', L', pR)) ∧ (if J' 0 57 = 0 then J' 0 56 else 10001) = nI (js (evJ J0 Lr tq wd wo w k)) ∧ rSt wJ J0 Lr 0 rho0 (fun _ => 0) t J' L' := by
  have hW := hE.1
  have cs : rSt wJ J0 Lr 0 rho0 (fun _ => 0) 0 (j_up (j_up J0 0 56 0) 0 57 0) Lr := ⟨fun k a b => by rw [j_up_cell _ a, j_up_cell _ a], fun q a => by rw [j_up_own, if_neg (by omega), j_up_own, if_neg (by omega)], Or.inl ⟨by decide, by rw [j_up_own, if_neg (by decide), j_up_own, if_pos rfl]; rfl, by rw [j_up_own, if_pos rfl]⟩, fun _ _ _ => rfl, fun j hj => absurd hj (Nat.not_lt_zero _), hW J0 Lr _ _ hwJ (fun k a => by rw [j_up_cell _ a, j_up_cell _ a]) (fun q _ a b => by rw [j_up_own, if_neg b, j_up_own, if_neg a]) (fun _ _ _ => rfl) (fun _ _ _ => rfl)⟩
  have iv : ivC (fun c i => J0 (21 + c) i) m 0 rho0 0 rho0 k := ⟨fun j hj => absurd hj (Nat.not_lt_zero _), fun j hj => absurd hj (Nat.not_lt_zero _)⟩
  obtain ⟨J1, L1, t1, v, r1, r2, r5, r6⟩ := ((eval_r hE hnl hl hlt w).1 m mt 75 false 0 rho0 n k hm hmt hr 0 rho0 iv).2 rfl w (fun _ => 0) 0 e _ Lr (Nat.le_refl _) he cs
  have r5 : rSv 0 (evJ J0 Lr tq wd wo w k).1 (evJ J0 Lr tq wd wo w k).2.1 v t1 := r5
  have run : jv (e + 1) 295 0 [some (.ref 0), some (.int (nI u)), none] [] (shR, J0, Lr, pR) = if J1 0 57 = 0 then some (some (.int (vI v)), (shR, J1, L1, pR)) else some (some (.int 2), (shR, J1, L1, pR)) := by
    rw [B295_0, if_pos (by decide), if_pos (j_in_nI (by omega) (by decide)), nI_clamp (by omega), j_up_cell _ (by decide), j_up_cell _ (by decide), e34]
    rw [jgo_some (d := e) rfl r1]
    dsimp only [Option.toList_some, Option.toList_none, List.cons_append, List.nil_append]
    rw [B295_20, B295_33, B295_33]
  by_cases z : (evJ J0 Lr tq wd wo w k).1 ≤ 10000
  · have a := r5.2.1 (by omega)
    have a : t1 = (evJ J0 Lr tq wd wo w k).1 ∧ v = (evJ J0 Lr tq wd wo w k).2.1 := ⟨by have := a.1; omega, a.2⟩
    have b : J1 0 57 = 0 ∧ J1 0 56 = nI t1 := by
      rcases r2.2.2.1 with ⟨_, b1, b2⟩ | ⟨b, _⟩
      · exact ⟨b2, b1⟩
      · omega
    refine ⟨J1, L1, t1, ?_, ?_, r2⟩
    · rw [run, if_pos b.1]
      unfold jg
      rw [if_pos z, a.2]
    · rw [if_pos b.1, b.2]
      unfold js
      rw [if_pos z, a.1]
  · have a := r5.2.2 (by omega)
    have b : ¬ J1 0 57 = 0 := by
      rcases r2.2.2.1 with ⟨b, _⟩ | ⟨_, b⟩
      · omega
      · rw [b]; decide
    refine ⟨J1, L1, t1, ?_, ?_, r2⟩
    · rw [run, if_neg b]
      unfold jg
      rw [if_neg z]
      rfl
    · rw [if_neg b]
      unfold js
      rw [if_neg z]
      rfl
/-- a let's number, first one -/
theorem letv_c {d i : Nat} {pw : Option Nat} (hsv : letC I0 L0 nl (svL J0 Lr tq wd wo wl)) (hi : i < nl) (b : Bool) : jv d 141 0 [some (.ref 116), some (.int (nI i)), some (.int (if b then 0 else 1))] [] (shC, I0, L0, pX pa pb pu pw) = some (some (.long (jl (svL J0 Lr tq wd wo wl i) b)), (shC, I0, L0, pX pa pb pu pw)) := by
  obtain ⟨h40, hs⟩ := hsv
  obtain ⟨b1, x, p, b2, b3, b4, b5, b6, b7⟩ := hs i hi
  have j40 : j_in (nI i) 40 = true := j_in_nI (by omega) (by decide)
  rw [B141_0, if_neg (nI_pos (by omega)), if_pos (show nI i < (40 : Int32) from nI_lt (b := 40) (by omega) (by decide)), if_pos j40, nI_clamp (by omega), b5, b4, b2]
  by_cases z : (svL J0 Lr tq wd wo wl i).1 ≤ 10000
  · have a := b6 z
    by_cases y : p.2 = 0
    · have hv : jl (svL J0 Lr tq wd wo wl i) b = -9223372036854775808 := by unfold jl; rw [if_neg (fun q => q.2 (by rw [← a.2]; exact y))]
      rw [if_pos ((lI_0 b3.d).mpr y), B141_33, hv]
    · have hv : jl (svL J0 Lr tq wd wo wl i) b = if b then lI p.1 else lI p.2 := by unfold jl; rw [if_pos ⟨z, by rw [← a.2]; exact y⟩, ← a.2]
      rw [if_neg (fun q => y ((lI_0 b3.d).mp q)), if_pos j40, if_neg (show ¬ (10000 : Int32) < nI x from nI_nlt (a := 10000) (by omega) (by omega)), if_pos j40, B141_56, B141_56, hv]
      cases b
      · rw [if_pos j40]; rfl
      · rfl
  · have a := b7 (by omega)
    have hv : jl (svL J0 Lr tq wd wo wl i) b = -9223372036854775808 := by unfold jl; rw [if_neg (fun q => z q.1)]
    rw [hv]
    by_cases y : p.2 = 0
    · rw [if_pos ((lI_0 b3.d).mpr y), B141_33]
    · rw [if_neg (fun q => y ((lI_0 b3.d).mp q)), if_pos j40, if_pos (show (10000 : Int32) < nI x from nI_lt (a := 10000) (by omega) (by omega)), B141_33]
/-- a let's number, second one, called from outside -/
theorem letv_r {C : Nat → Nat → Int32} {e i : Nat} (he : 70 + wl (i + 1) ≤ e) (hE : envR wJ J0 Lr nl nt (lnR J0) tq wd wo) (hnl : nl ≤ 40) (hl : ltR C (fun c i => J0 (21 + c) i) (Lr 25) nl wl (lnR J0)) (hlt : ∀ i, i < nl → ∃ n mt, mt ≤ nt ∧ rel C (fun c i => J0 (21 + c) i) (Lr 25) i mt (wl i) 75 true (wl (i + 1)) 0 rho0 n (lnR J0 i)) (hi : i < nl) (e39 : J0 0 39 = nI nl) (e18 : J0 0 18 = 0) (hwJ : wJ J0 Lr) (b : Bool) : ∃ J' L' t, jv (e + 1) 298 0 [some (.ref 0), some (.int (nI i)), some (.int (if b then 0 else 1))] [] (shR, J0, Lr, pR) = some (some (.long (jl (svL J0 Lr tq wd wo wl i) b)), (shR, J', L', pR)) ∧ rSt wJ J0 Lr 0 rho0 (fun _ => 0) t J' L' := by
  have hW := hE.1
  have cs : rSt wJ J0 Lr 0 rho0 (fun _ => 0) 0 (j_up (j_up J0 0 56 0) 0 57 0) Lr := ⟨fun k a b => by rw [j_up_cell _ a, j_up_cell _ a], fun q a => by rw [j_up_own, if_neg (by omega), j_up_own, if_neg (by omega)], Or.inl ⟨by decide, by rw [j_up_own, if_neg (by decide), j_up_own, if_pos rfl]; rfl, by rw [j_up_own, if_pos rfl]⟩, fun _ _ _ => rfl, fun j hj => absurd hj (Nat.not_lt_zero _), hW J0 Lr _ _ hwJ (fun k a => by rw [j_up_cell _ a, j_up_cell _ a]) (fun q _ a b => by rw [j_up_own, if_neg b, j_up_own, if_neg a]) (fun _ _ _ => rfl) (fun _ _ _ => rfl)⟩
  obtain ⟨n, mt, hmt, hr⟩ := hlt i hi
  have iv : ivC (fun c i => J0 (21 + c) i) i 0 rho0 0 rho0 (lnR J0 i) := ⟨fun j hj => absurd hj (Nat.not_lt_zero _), fun j hj => absurd hj (Nat.not_lt_zero _)⟩
  obtain ⟨J1, L1, t1, q, r1, r2, r3, r4, r5, r6⟩ := ((eval_r hE hnl hl hlt (wl (i + 1))).1 i mt 75 true 0 rho0 n (lnR J0 i) (by omega) hmt hr 0 rho0 iv).1 rfl (wl (i + 1)) (fun _ => 0) 0 e _ Lr (Nat.le_refl _) he cs
  have r5 : rSp 0 (svL J0 Lr tq wd wo wl i).1 (svL J0 Lr tq wd wo wl i).2 q t1 := r5
  refine ⟨J1, L1, t1, ?_, r2⟩
  have b01 : ¬ ((if b then 0 else 1 : Int32) < 0) ∧ ¬ ((1 : Int32) < (if b then 0 else 1 : Int32)) := by cases b <;> decide
  rw [B298_0, if_neg (nI_pos (by omega)), e39, if_pos (nI_lt hi (by omega)), if_neg b01.1, if_neg b01.2, if_pos e18, if_pos (by decide), if_pos (j_in_nI (by omega) (by decide)), nI_clamp (by omega), j_up_cell _ (by decide), j_up_cell _ (by decide), hE.2.2.2.2.2.1 i hi]
  rw [jgo_some (d := e) rfl r1]
  dsimp only [Option.toList_some, Option.toList_none, List.cons_append, List.nil_append]
  rw [B298_52]
  by_cases z : (svL J0 Lr tq wd wo wl i).1 ≤ 10000
  · have a := r5.2.1 (by omega)
    have y0 : J1 0 57 = 0 := by
      rcases r2.2.2.1 with ⟨_, b1, b2⟩ | ⟨b, _⟩
      · exact b2
      · omega
    rw [if_pos y0, r4, r3]
    by_cases y : q.2 = 0
    · have hv : jl (svL J0 Lr tq wd wo wl i) b = -9223372036854775808 := by unfold jl; rw [if_neg (fun q => q.2 (by rw [← a.2]; exact y))]
      rw [if_pos ((lI_0 r5.1.d).mpr y), B298_68, B298_89, hv]
    · have hv : jl (svL J0 Lr tq wd wo wl i) b = if b then lI q.1 else lI q.2 := by unfold jl; rw [if_pos ⟨z, by rw [← a.2]; exact y⟩, ← a.2]
      rw [if_neg (fun q => y ((lI_0 r5.1.d).mp q)), B298_89, B298_89, hv]
      cases b <;> rfl
  · have a := r5.2.2 (by omega)
    have y0 : ¬ J1 0 57 = 0 := by
      rcases r2.2.2.1 with ⟨b, _⟩ | ⟨_, b⟩
      · omega
      · rw [b]; decide
    have hv : jl (svL J0 Lr tq wd wo wl i) b = -9223372036854775808 := by unfold jl; rw [if_neg (fun q => z q.1)]
    rw [if_neg y0, B298_68, B298_89, hv]
end EVAT
