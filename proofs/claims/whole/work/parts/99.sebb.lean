/-! SEA: balance, trim and heel, second one -/
section SEBB
variable {d e : Nat} {I J : Nat → Nat → Int32} {L L' : Nat → Nat → Int64} {m : Nat → Int32} {o : Nat}
noncomputable def VA (m : Nat → Int32) (o w : Nat) (b c : Int) : Int := VW m o w (seaL m o (WT m o) b c) b c
/-- what the water's moments are more than all weight's -/
noncomputable def XA (m : Nat → Int32) (o w : Nat) (b c : Int) : Int := VA m o w b c - WW m o w b c
noncomputable def tT (m : Nat → Int32) (o : Nat) (b c : Int) : Int64 := lI (2048 * mv m 0 * mv m 0 * XA m o 1 b c + b * XA m o 3 b c)
noncomputable def tU (m : Nat → Int32) (o : Nat) (b c : Int) : Int64 := lI (2048 * mv m 1 * mv m 1 * XA m o 2 b c + c * XA m o 3 b c)
/-- halving -/
def hvS (P : Int → Bool) : Nat → Int → Int → Int
  | 0, lo, _ => lo
  | n + 1, lo, hi => if 1 < hi - lo then (if P (lo + (hi - lo) / 2) = true then hvS P n (lo + (hi - lo) / 2) hi else hvS P n lo (lo + (hi - lo) / 2)) else lo
noncomputable def trP (m : Nat → Int32) (o : Nat) (c b : Int) : Bool := decide ((tT m o b c).toInt ≤ 0)
/-- the trim -/
noncomputable def tR (m : Nat → Int32) (o : Nat) (c : Int) : Option Int := if 0 < (tT m o (-2048) c).toInt ∨ (tT m o 2048 c).toInt ≤ 0 then none else some (hvS (trP m o c) 13 (-2048) 2048)
theorem hvS_b (P : Int → Bool) {A B : Int} : ∀ (n : Nat) (lo hi : Int), A ≤ lo → lo < hi → hi ≤ B → A ≤ hvS P n lo hi ∧ hvS P n lo hi < B := by
  intro n
  induction n with
  | zero => intro lo hi h1 h2 h3; exact ⟨h1, by show lo < B; omega⟩
  | succ n ih =>
    intro lo hi h1 h2 h3
    unfold hvS
    split
    · split
      · exact ih _ _ (by omega) (by omega) h3
      · exact ih _ _ h1 (by omega) (by omega)
    · omega
theorem tR_b {c b : Int} (h : tR m o c = some b) : -2048 ≤ b ∧ b < 2048 := by
  unfold tR at h
  split at h
  · cases h
  · injection h with h
    rw [← h]
    exact hvS_b _ 13 (-2048) 2048 (by omega) (by omega) (by omega)
/-- which way the ship turns: none without trim -/
noncomputable def sD (m : Nat → Int32) (o : Nat) (c : Int) : Option Bool := match tR m o c with | none => none | some b => some (decide (0 < (tU m o b c).toInt))
def hlS (Q : Int → Option Bool) : Nat → Int → Int → Option Int
  | 0, lo, _ => some lo
  | n + 1, lo, hi => if 1 < hi - lo then (match Q (lo + (hi - lo) / 2) with | none => none | some true => hlS Q n lo (lo + (hi - lo) / 2) | some false => hlS Q n (lo + (hi - lo) / 2) hi) else some lo
/-- the heel -/
noncomputable def hE (m : Nat → Int32) (o : Nat) : Option Int := match sD m o (-2048), sD m o 2048 with | some false, some true => hlS (sD m o) 13 (-2048) 2048 | _, _ => none
/-- what balance() leaves -/
def balP (m : Nat → Int32) (o : Nat) (b c : Int) (J : Nat → Nat → Int32) (L : Nat → Nat → Int64) : Prop := J 0 86 = vI (seaL m o (WT m o) b c) ∧ L 0 79 = lI (VA m o 0 b c) ∧ L 0 80 = lI (VA m o 1 b c) ∧ L 0 81 = lI (VA m o 2 b c) ∧ L 0 82 = lI (VA m o 3 b c) ∧ L 0 83 = lI (WW m o 1 b c) ∧ L 0 84 = lI (WW m o 2 b c) ∧ L 0 85 = lI (WW m o 3 b c)
def frB (J J' : Nat → Nat → Int32) (L L' : Nat → Nat → Int64) : Prop := (∀ c, c ≠ 0 → J' c = J c) ∧ (∀ q, q ≠ 86 → J' 0 q = J 0 q) ∧ (∀ c, c ≠ 0 → L' c = L c) ∧ ∀ q, q < 79 ∨ 85 < q → L' 0 q = L 0 q
theorem frB.rfl' : frB J J L L := ⟨fun _ _ => rfl, fun _ _ => rfl, fun _ _ => rfl, fun _ _ => rfl⟩
theorem frB.trans {J1 J2 : Nat → Nat → Int32} {L1 L2 : Nat → Nat → Int64} (a : frB J J1 L L1) (b : frB J1 J2 L1 L2) : frB J J2 L L2 := ⟨fun c h => by rw [b.1 c h, a.1 c h], fun q h => by rw [b.2.1 q h, a.2.1 q h], fun c h => by rw [b.2.2.1 c h, a.2.2.1 c h], fun q h => by rw [b.2.2.2 q h, a.2.2.2 q h]⟩
/-- the second one with runs laid for the spaces open -/
def rfS (m : Nat → Int32) (o : Nat) (I J : Nat → Nat → Int32) (L : Nat → Nat → Int64) : Prop := mQ m I J ∧ (∀ p, p < 16 → spR m p) ∧ opKd m o ∧ J 0 62 = nI o ∧ (∃ f, rnZ m o J f 256 ∧ J 44 256 = nI (f 256)) ∧ L 0 63 = lI (WT m o)
theorem mQ.frR {J' : Nat → Nat → Int32} (h : mQ m I J) (e : ∀ c, c ≠ 0 → c ≤ 6 → J' c = J c) : mQ m I J' := ⟨h.1, fun q hq => by rw [e 6 (by decide) (by decide)]; exact h.2.1 q hq, h.2.2.1, rCst_eq1 h.2.2.2 (fun c c1 c6 => e c c1 (by omega))⟩
theorem rnZ.cg {J' : Nat → Nat → Int32} {f : Nat → Nat} {i : Nat} (h : rnZ m o J f i) (e : ∀ c, c ≠ 0 → J' c = J c) : rnZ m o J' f i := ⟨fun i' hi => by rw [e 44 (by decide)]; exact h.1 i' hi, h.2.1, fun i' hi => ⟨(h.2.2 i' hi).1, (h.2.2 i' hi).2.cg (fun j _ => by rw [e 45 (by decide), e 46 (by decide), e 47 (by decide)]; exact ⟨rfl, rfl, rfl⟩)⟩⟩
theorem rfS.fr {J' : Nat → Nat → Int32} {L' : Nat → Nat → Int64} (h : rfS m o I J L) (e : frB J J' L L') : rfS m o I J' L' := by
  obtain ⟨h1, h2, h3, h4, ⟨f, h5, h6⟩, h7⟩ := h
  exact ⟨h1.frR (fun c c1 _ => e.1 c c1), h2, h3, by rw [e.2.1 62 (by decide)]; exact h4, ⟨f, h5.cg e.1, by rw [e.1 44 (by decide)]; exact h6⟩, by rw [e.2.2.2 63 (by decide)]; exact h7⟩
theorem balance_r (h : rfS m o I J L) {b c : Int} (hb : -2048 ≤ b ∧ b ≤ 2048) (hc : -2048 ≤ c ∧ c ≤ 2048) : ∃ J' L', frB J J' L L' ∧ balP m o b c J' L' ∧ jv (e + 6) 313 0 [some (.ref 0), some (.int (vI b)), some (.int (vI c))] [] (shR, J, L, pR) = some (none, (shR, J', L', pR)) := by
  obtain ⟨h1, h2, h3, h4, ⟨f, h5, h6⟩, h7⟩ := id h
  have wb := WT_b h1 o
  obtain ⟨s1, s2, s3, -⟩ := seal_r (e := e + 4) (L := L) h1 h2 h3 h5 h6 hb hc h7 wb.1 wb.2
  generalize hlv : seaL m o (WT m o) b c = lv at *
  have e86 : j_up J 0 86 (vI lv) 0 86 = vI lv := by rw [j_up_own, if_pos rfl]
  have fr : ∀ c, c ≠ 0 → j_up J 0 86 (vI lv) c = J c := fun c hc => by rw [j_up_cell _ hc]
  have hm : mQ m I (j_up J 0 86 (vI lv)) := h1.frR (fun c c1 _ => fr c c1)
  have hz := h5.cg fr
  have sr := sums_r (e := e + 5) (L := L) (J := j_up J 0 86 (vI lv)) (a := lv) (b := b) (c := c) (fun s k hs hk => hz.C (by rw [fr 44 (by decide)]; exact h6) hm hs hk) (by omega) hb hc
  have mr := moments_r (e := e) (L := mmL L (VW m o 0 lv b c) (VW m o 1 lv b c) (VW m o 2 lv b c) (VW m o 3 lv b c)) hm (by rw [j_up_own, if_neg (by decide)]; exact h4) hb hc
  refine ⟨j_up J 0 86 (vI lv), lmL (mmL L (VW m o 0 lv b c) (VW m o 1 lv b c) (VW m o 2 lv b c) (VW m o 3 lv b c)) (WW m o 1 b c) (WW m o 2 b c) (WW m o 3 b c), ⟨fr, fun q hq => by rw [j_up_own, if_neg hq], fun c hc => by rw [lmL_c _ _ _ hc, mmL_c _ _ _ _ hc], fun q hq => by
      rw [lmL_own, if_neg (by omega), if_neg (by omega), if_neg (by omega), mmL_own, if_neg (by omega), if_neg (by omega), if_neg (by omega), if_neg (by omega)]⟩, ?_, ?_⟩
  · unfold balP VA
    rw [hlv]
    refine ⟨e86, ?_, ?_, ?_, ?_, ?_, ?_, ?_⟩ <;> (rw [lmL_own]; first | rfl | (rw [if_neg (by decide), if_neg (by decide), if_neg (by decide), mmL_own]; rfl))
  · rw [B313_0, jgo_some (d := e + 5) rfl s1]
    dsimp only [Option.toList_some, List.cons_append, List.nil_append]
    rw [B313_7, e86, jgo_some (d := e + 5) rfl sr]
    dsimp only [Option.toList_some, Option.toList_none, List.cons_append, List.nil_append]
    rw [B313_20]
    refine Eq.trans (jgo_some (d := e + 5) rfl mr) ?_
    dsimp only [Option.toList_some, Option.toList_none, List.cons_append, List.nil_append]
    rw [B313_26]
theorem vI_64' {z : Int} (h1 : -2048 ≤ z) (h2 : z ≤ 2048) : (vI z).toInt64 = lI z := vI_64 (by omega) (by omega)
theorem along_r (h : rfS m o I J L) {b c : Int} (hb : -2048 ≤ b ∧ b ≤ 2048) (hc : -2048 ≤ c ∧ c ≤ 2048) : ∃ J' L', frB J J' L L' ∧ jv (e + 7) 314 0 [some (.ref 0), some (.int (vI b)), some (.int (vI c)), none, none] [] (shR, J, L, pR) = some (some (.long (tT m o b c)), (shR, J', L', pR)) := by
  obtain ⟨J', L', a1, a2, a3⟩ := balance_r (e := e) h hb hc
  have h' := (h.fr a1).1
  refine ⟨J', L', a1, ?_⟩
  obtain ⟨p1, p2, p3, p4, p5, p6, p7, p8⟩ := a2
  rw [B314_0, jgo_some (d := e + 6) rfl a3]
  dsimp only [Option.toList_some, Option.toList_none, List.cons_append, List.nil_append]
  rw [B314_6, g_at_0_0 h'.2.2.2]
  dsimp only [Option.toList_some, Option.toList_none, List.cons_append, List.nil_append]
  rw [B314_17, if_pos (by decide), show (nI 0).toNatClampNeg = 0 from rfl, h'.2.1 0 (by decide), m64, p3, p5, p6, p8, vI_64' hb.1 hb.2, show (2048 : Int64) = lI 2048 from rfl, lI_mul, lI_mul, lI_sub, lI_sub, lI_mul, lI_mul, lI_add]
  rfl
theorem across_r (h : mQ m I J) {b c : Int} (hp : balP m o b c J L) (hc : -2048 ≤ c ∧ c ≤ 2048) : jv (e + 1) 315 0 [some (.ref 0), some (.int (vI c)), none, none] [] (shR, J, L, pR) = some (some (.long (tU m o b c)), (shR, J, L, pR)) := by
  obtain ⟨p1, p2, p3, p4, p5, p6, p7, p8⟩ := hp
  rw [B315_0, g_at_0_1 h.2.2.2]
  dsimp only [Option.toList_some, Option.toList_none, List.cons_append, List.nil_append]
  rw [B315_11, if_pos (by decide), show (nI 1).toNatClampNeg = 1 from rfl, h.2.1 1 (by decide), m64, p4, p5, p7, p8, vI_64' hc.1 hc.2, show (2048 : Int64) = lI 2048 from rfl, lI_mul, lI_mul, lI_sub, lI_sub, lI_mul, lI_mul, lI_add]
  rfl
theorem lc0 (x : Int64) : (0 : Int32) < lg_cmp x 0 ↔ 0 < x.toInt := by rw [lcmp_pos]; rfl
theorem vI_half' {lo hi : Int} (h1 : 1 < hi - lo) (h2 : hi - lo ≤ 4096) : vI lo + (vI hi - vI lo) / 2 = vI (lo + (hi - lo) / 2) := by
  rw [vI_sub, vI_half (by omega) (by omega), vI_add]
theorem trim_r (h : rfS m o I J L) {c : Int} (hc : -2048 ≤ c ∧ c ≤ 2048) : ∃ J' L', frB J J' L L' ∧ jv (e + 8) 316 0 [some (.ref 0), some (.int (vI c)), none, none, none] [] (shR, J, L, pR) = some (some (.int (match tR m o c with | none => 99999 | some b => vI b)), (shR, J', L', pR)) := by
  have loop : ∀ (n : Nat) (lo hi : Int) (J : Nat → Nat → Int32) (L : Nat → Nat → Int64) (o4 : Option Value), hi - lo ≤ 2 ^ n → lo < hi → -2048 ≤ lo → hi ≤ 2048 → rfS m o I J L → ∃ J' L', frB J J' L L' ∧ jv (e + 8) 316 34 [some (.ref 0), some (.int (vI c)), some (.int (vI lo)), some (.int (vI hi)), o4] [] (shR, J, L, pR) = some (some (.int (vI (hvS (trP m o c) n lo hi))), (shR, J', L', pR)) := by
    intro n
    induction n with
    | zero =>
      intro lo hi J L o4 hw hl h1 h2 h
      refine ⟨J, L, frB.rfl', ?_⟩
      rw [B316_34, vI_sub, if_neg (show ¬ (1 : Int32) < vI (hi - lo) from fun y => by
        have := (vI_lt (a := 1) (by omega) (by omega) (by omega) (by omega)).mp y
        omega)]
      rfl
    | succ n ih =>
      intro lo hi J L o4 hw hl h1 h2 h
      by_cases g : 1 < hi - lo
      case neg =>
        refine ⟨J, L, frB.rfl', ?_⟩
        rw [B316_34, vI_sub, if_neg (show ¬ (1 : Int32) < vI (hi - lo) from fun y => g ((vI_lt (a := 1) (by omega) (by omega) (by omega) (by omega)).mp y))]
        unfold hvS
        rw [if_neg g]
      have h2p : (2 : Int) ^ (n + 1) = 2 * 2 ^ n := by rw [Int.pow_succ]; omega
      obtain ⟨J1, L1, a1, a2⟩ := along_r (e := e) h (b := lo + (hi - lo) / 2) (by omega) hc
      rw [B316_34, if_pos (show (1 : Int32) < vI hi - vI lo by rw [vI_sub]; exact (vI_lt (a := 1) (by omega) (by omega) (by omega) (by omega)).mpr g), if_neg (show ¬ (2 : Int32) = 0 by decide), vI_half' g (by omega), jgo_some (d := e + 7) rfl a2]
      dsimp only [Option.toList_some, List.cons_append, List.nil_append]
      rw [B316_57]
      unfold hvS
      rw [if_pos g]
      by_cases q : 0 < (tT m o (lo + (hi - lo) / 2) c).toInt
      · rw [if_pos ((lc0 _).mpr q), B316_71, if_neg (show ¬ trP m o c (lo + (hi - lo) / 2) = true by unfold trP; simp; exact q)]
        obtain ⟨J2, L2, b1, b2⟩ := ih lo (lo + (hi - lo) / 2) J1 L1 (some (.int (vI (lo + (hi - lo) / 2)))) (by omega) (by omega) h1 (by omega) (h.fr a1)
        exact ⟨J2, L2, a1.trans b1, b2⟩
      · rw [if_neg (fun y => q ((lc0 _).mp y)), B316_71, if_pos (show trP m o c (lo + (hi - lo) / 2) = true by unfold trP; simp; exact Int.not_lt.mp q)]
        obtain ⟨J2, L2, b1, b2⟩ := ih (lo + (hi - lo) / 2) hi J1 L1 (some (.int (vI (lo + (hi - lo) / 2)))) (by omega) (by omega) (by omega) h2 (h.fr a1)
        exact ⟨J2, L2, a1.trans b1, b2⟩
  obtain ⟨J1, L1, a1, a2⟩ := along_r (e := e) h (b := -2048) (by omega) hc
  obtain ⟨J2, L2, b1, b2⟩ := along_r (e := e) (h.fr a1) (b := 2048) (by omega) hc
  rw [B316_0, show (-2048 : Int32) = vI (-2048) from rfl, show (2048 : Int32) = vI 2048 from rfl, jgo_some (d := e + 7) rfl a2]
  dsimp only [Option.toList_some, List.cons_append, List.nil_append]
  rw [B316_14]
  by_cases q1 : 0 < (tT m o (-2048) c).toInt
  · refine ⟨J1, L1, a1, ?_⟩
    rw [if_pos ((lc0 _).mpr q1), B316_30]
    have : tR m o c = none := by unfold tR; rw [if_pos (Or.inl q1)]
    rw [this]
  rw [if_neg (fun y => q1 ((lc0 _).mp y)), jgo_some (d := e + 7) rfl b2]
  dsimp only [Option.toList_some, List.cons_append, List.nil_append]
  rw [B316_25]
  by_cases q2 : 0 < (tT m o 2048 c).toInt
  · obtain ⟨J3, L3, c1, c2⟩ := loop 13 (-2048) 2048 J2 L2 none (by decide) (by omega) (by omega) (by omega) ((h.fr a1).fr b1)
    refine ⟨J3, L3, (a1.trans b1).trans c1, ?_⟩
    rw [if_pos ((lc0 _).mpr q2), c2]
    have : tR m o c = some (hvS (trP m o c) 13 (-2048) 2048) := by unfold tR; rw [if_neg (by omega)]
    rw [this]
  · refine ⟨J2, L2, a1.trans b1, ?_⟩
    rw [if_neg (fun y => q2 ((lc0 _).mp y)), B316_30]
    have : tR m o c = none := by unfold tR; rw [if_pos (Or.inr (Int.not_lt.mp q2))]
    rw [this]
def sdI : Option Bool → Int32
  | none => 9
  | some true => 1
  | some false => 0
theorem side_r (h : rfS m o I J L) {c : Int} (hc : -2048 ≤ c ∧ c ≤ 2048) : ∃ J' L', frB J J' L L' ∧ jv (e + 9) 317 0 [some (.ref 0), some (.int (vI c)), none] [] (shR, J, L, pR) = some (some (.int (sdI (sD m o c))), (shR, J', L', pR)) := by
  obtain ⟨J1, L1, a1, a2⟩ := trim_r (e := e) h hc
  rw [B317_0, jgo_some (d := e + 8) rfl a2]
  dsimp only [Option.toList_some, List.cons_append, List.nil_append]
  rw [B317_5]
  unfold sD
  cases ht : tR m o c with
  | none => exact ⟨J1, L1, a1, by rw [if_pos rfl]; rfl⟩
  | some b =>
    have hb := tR_b ht
    obtain ⟨J2, L2, b1, b2, b3⟩ := balance_r (e := e + 2) (h.fr a1) (b := b) (by omega) hc
    refine ⟨J2, L2, a1.trans b1, ?_⟩
    dsimp only
    rw [if_neg (show ¬ vI b = 99999 from fun y => by
      have := congrArg Int32.toInt y
      rw [vI_i (by omega) (by omega)] at this
      have e9 : (99999 : Int32).toInt = 99999 := by decide
      omega), jgo_some (d := e + 8) rfl b3]
    dsimp only [Option.toList_some, Option.toList_none, List.cons_append, List.nil_append]
    rw [B317_22, jgo_some (d := e + 8) rfl (across_r (e := e + 7) ((h.fr a1).fr b1).1 b2 hc)]
    dsimp only [Option.toList_some, Option.toList_none, List.cons_append, List.nil_append]
    rw [B317_27]
    by_cases q : 0 < (tU m o b c).toInt
    · rw [if_pos ((lc0 _).mpr q), B317_37, decide_eq_true q]; rfl
    · rw [if_neg (fun y => q ((lc0 _).mp y)), B317_37, decide_eq_false q]; rfl
theorem heel_r (h : rfS m o I J L) : ∃ J' L', frB J J' L L' ∧ jv (e + 10) 318 0 [some (.ref 0), none, none, none, none, none, none] [] (shR, J, L, pR) = some (some (.int (match hE m o with | none => 99999 | some c => vI c)), (shR, J', L', pR)) := by
  have loop : ∀ (n : Nat) (lo hi : Int) (J : Nat → Nat → Int32) (L : Nat → Nat → Int64) (l3 l4 : Int32) (o5 o6 : Option Value), hi - lo ≤ 2 ^ n → lo < hi → -2048 ≤ lo → hi ≤ 2048 → rfS m o I J L → ∃ J' L', frB J J' L L' ∧ jv (e + 10) 318 35 [some (.ref 0), some (.int (vI lo)), some (.int (vI hi)), some (.int l3), some (.int l4), o5, o6] [] (shR, J, L, pR) = some (some (.int (match hlS (sD m o) n lo hi with | none => 99999 | some c => vI c)), (shR, J', L', pR)) := by
    intro n
    induction n with
    | zero =>
      intro lo hi J L l3 l4 o5 o6 hw hl h1 h2 h
      refine ⟨J, L, frB.rfl', ?_⟩
      rw [B318_35, vI_sub, if_neg (show ¬ (1 : Int32) < vI (hi - lo) from fun y => by
        have := (vI_lt (a := 1) (by omega) (by omega) (by omega) (by omega)).mp y
        omega)]
      rfl
    | succ n ih =>
      intro lo hi J L l3 l4 o5 o6 hw hl h1 h2 h
      by_cases g : 1 < hi - lo
      case neg =>
        refine ⟨J, L, frB.rfl', ?_⟩
        rw [B318_35, vI_sub, if_neg (show ¬ (1 : Int32) < vI (hi - lo) from fun y => g ((vI_lt (a := 1) (by omega) (by omega) (by omega) (by omega)).mp y))]
        unfold hlS
        rw [if_neg g]
      have h2p : (2 : Int) ^ (n + 1) = 2 * 2 ^ n := by rw [Int.pow_succ]; omega
      obtain ⟨J1, L1, a1, a2⟩ := side_r (e := e) h (c := lo + (hi - lo) / 2) (by omega)
      rw [B318_35, if_pos (show (1 : Int32) < vI hi - vI lo by rw [vI_sub]; exact (vI_lt (a := 1) (by omega) (by omega) (by omega) (by omega)).mpr g), if_neg (show ¬ (2 : Int32) = 0 by decide), vI_half' g (by omega), jgo_some (d := e + 9) rfl a2]
      dsimp only [Option.toList_some, List.cons_append, List.nil_append]
      rw [B318_57]
      unfold hlS
      rw [if_pos g]
      cases hs : sD m o (lo + (hi - lo) / 2) with
      | none => exact ⟨J1, L1, a1, by rw [if_pos (show sdI none = 9 from rfl)]⟩
      | some t =>
        cases t with
        | true =>
          rw [show sdI (some true) = 1 from rfl, if_neg (by decide), if_neg (by decide), B318_81, if_pos rfl, B318_94]
          obtain ⟨J2, L2, b1, b2⟩ := ih lo (lo + (hi - lo) / 2) J1 L1 l3 l4 (some (.int (vI (lo + (hi - lo) / 2)))) (some (.int 1)) (by omega) (by omega) h1 (by omega) (h.fr a1)
          exact ⟨J2, L2, a1.trans b1, b2⟩
        | false =>
          rw [show sdI (some false) = 0 from rfl, if_neg (by decide), if_pos rfl, B318_81, if_neg (by decide), B318_94]
          obtain ⟨J2, L2, b1, b2⟩ := ih (lo + (hi - lo) / 2) hi J1 L1 l3 l4 (some (.int (vI (lo + (hi - lo) / 2)))) (some (.int 0)) (by omega) (by omega) (by omega) h2 (h.fr a1)
          exact ⟨J2, L2, a1.trans b1, b2⟩
  obtain ⟨J1, L1, a1, a2⟩ := side_r (e := e) h (c := -2048) (by omega)
  obtain ⟨J2, L2, b1, b2⟩ := side_r (e := e) (h.fr a1) (c := 2048) (by omega)
  rw [B318_0, show (-2048 : Int32) = vI (-2048) from rfl, show (2048 : Int32) = vI 2048 from rfl, jgo_some (d := e + 9) rfl a2]
  dsimp only [Option.toList_some, List.cons_append, List.nil_append]
  rw [B318_13, jgo_some (d := e + 9) rfl b2]
  dsimp only [Option.toList_some, List.cons_append, List.nil_append]
  rw [B318_19]
  unfold hE
  cases h1 : sD m o (-2048) with
  | none => exact ⟨J2, L2, a1.trans b1, by rw [show sdI none = 9 from rfl, if_neg (by decide), B318_31]⟩
  | some t1 =>
    cases t1 with
    | true => exact ⟨J2, L2, a1.trans b1, by rw [show sdI (some true) = 1 from rfl, if_neg (by decide), B318_31]⟩
    | false =>
      rw [show sdI (some false) = 0 from rfl, if_pos rfl]
      cases h2 : sD m o 2048 with
      | none => exact ⟨J2, L2, a1.trans b1, by rw [show sdI none = 9 from rfl, if_neg (by decide), B318_31]⟩
      | some t2 =>
        cases t2 with
        | false => exact ⟨J2, L2, a1.trans b1, by rw [show sdI (some false) = 0 from rfl, if_neg (by decide), B318_31]⟩
        | true =>
          obtain ⟨J3, L3, c1, c2⟩ := loop 13 (-2048) 2048 J2 L2 0 1 none none (by decide) (by omega) (by omega) (by omega) ((h.fr a1).fr b1)
          exact ⟨J3, L3, (a1.trans b1).trans c1, by rw [show sdI (some true) = 1 from rfl, if_pos rfl, c2]⟩
end SEBB
