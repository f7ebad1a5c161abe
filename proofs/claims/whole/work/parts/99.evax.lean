/-! RULES: words of something that ask no sea -/
section EVAY
variable {m : Nat → Int32} {I J : Nat → Nat → Int32} {L L' : Nat → Nat → Int64} {pa pb pu pw : Option Nat} {d e : Nat}
/-- a room, whoever looks -/
def roomP (m : Nat → Int32) (p R : Nat) : Prop := R ≤ 600000 ∧ ∀ (I J : Nat → Nat → Int32) (L L' : Nat → Nat → Int64) (pa pb pu pw : Option Nat) (d e : Nat), mQ m I J → jv (d + 2) 58 0 [some (.ref 1), some (.int (nI p)), none, none, none, none] [] (shC, I, L, pX pa pb pu pw) = some (some (.int (nI R)), (shC, I, L, pX pa pb pu pw)) ∧ jv (e + 2) 248 0 [some (.ref 0), some (.ref 6), some (.int (nI p)), none, none, none, none, none, none] [] (shR, J, L', pR) = some (some (.int (nI R)), (shR, J, L', pR))
theorem room_all (h : mQ m I J) {p : Nat} (hp : p < 16) : ∃ R, roomP m p R := by
  obtain ⟨R0, b0, _, r0⟩ := roomQ_sim (d := 0) (e := 0) (L := fun _ _ => 0) (L' := fun _ _ => 0) (pa := none) (pb := none) (pu := none) (pw := none) h hp
  refine ⟨R0, b0, fun I' J' L1 L1' pa' pb' pu' pw' d' e' h' => ?_⟩
  obtain ⟨R1, b1, c1, r1⟩ := roomQ_sim (d := d') (e := e') (L := L1) (L' := L1') (pa := pa') (pb := pb') (pu := pu') (pw := pw') h' hp
  obtain ⟨R2, b2, c2, r2⟩ := roomQ_sim (d := d') (e := 0) (L := L1) (L' := fun _ _ => 0) (pa := pa') (pb := pb') (pu := pu') (pw := pw') (show mQ m I' J from ⟨h'.1, h.2.1, h.2.2.1, h.2.2.2⟩) hp
  have e1 : R1 = R2 := by
    rw [c1] at c2
    have := congrArg (fun z : jO => z.map (fun y => y.1)) c2
    have := (nI_eq (by omega) (by omega)).mp (Value.int.inj (Option.some.inj (Option.some.inj this)))
    exact this
  have e2 : R2 = R0 := by
    rw [r0] at r2
    have := congrArg (fun z : jO => z.map (fun y => y.1)) r2
    have := (nI_eq (by omega) (by omega)).mp (Value.int.inj (Option.some.inj (Option.some.inj this)))
    exact this.symm
  rw [← e2, ← e1]
  exact ⟨c1, r1⟩
noncomputable def roomN (m : Nat → Int32) (p : Nat) : Nat := by
  classical exact if h : ∃ R, roomP m p R then Classical.choose h else 0
theorem room_N (h : mQ m I J) {p : Nat} (hp : p < 16) : roomP m p (roomN m p) := by
  have z := room_all h hp
  unfold roomN
  rw [dif_pos z]
  exact Classical.choose_spec z
abbrev isSl (x : Int32) : Prop := ¬ x < 0 ∧ x < 16
def kdS (m : Nat → Int32) (x : Int32) : Int32 := if isSl x then m (152 + x.toNatClampNeg * 8) else 0
noncomputable def woB (m : Nat → Int32) (I : Nat → Nat → Int32) (w : Nat) (x : Int32) : Int × Int :=
  if w = 4 then (if isSl x then fS (stlS m x 0) 1 else (0, 0))
  else if w = 5 then (if isSl x then fS (stlS m x 1) (stlS m x 0) else (0, 0))
  else if w = 6 then (if isSl x then fA 1 (stlS m x 2) 1 (fA 3 (fA 2 (stlS m x 1) 1 (stlS m x 1) 1).1 (fA 2 (stlS m x 1) 1 (stlS m x 1) 1).2 (stlS m x 0) 1).1 (fA 3 (fA 2 (stlS m x 1) 1 (stlS m x 1) 1).1 (fA 2 (stlS m x 1) 1 (stlS m x 1) 1).2 (stlS m x 0) 1).2 else (0, 0))
  else if w = 7 then (if 0 < kdS m x then (((roomN m x.toNatClampNeg : Nat) : Int), 1) else (0, 0))
  else if w = 8 then (if 0 < kdS m x then ((m (400 + x.toNatClampNeg * 2)).toInt, 1) else (0, 0))
  else if w = 9 then (if I 96 0 ≠ 0 ∧ (¬ x < 0 ∧ x < 6) ∧ ¬ I 97 x.toNatClampNeg < 0 then ((I 97 x.toNatClampNeg).toInt, 1) else (0, 0))
  else (if I 107 1 ≠ 0 ∧ ¬ I 107 5 < 0 ∧ (¬ x < 0 ∧ x < 7) ∧ ¬ I 111 x.toNatClampNeg < 0 then ((I 110 x.toNatClampNeg).toInt, 1) else (0, 0))
noncomputable def woA (m : Nat → Int32) (I : Nat → Nat → Int32) (w : Nat) (p : Int × Int) : Int × Int := if p.2 = 1 ∧ -2048 ≤ p.1 ∧ p.1 ≤ 2048 then woB m I w (lI p.1).toInt32 else (0, 0)
theorem is1' {q : Int × Int} (hq : fN q) : lg_cmp (lI q.2) 1 = 0 ↔ q.2 = 1 := by
  rw [lcmp_e]
  constructor
  · intro z; have := hq.d.i; rw [z] at this; exact this.symm
  · intro z; rw [z]; rfl
theorem kindS_c (h : mQ m I J) (x : Int32) : jv (d + 1) 54 0 [some (.ref 1), some (.int x)] [] (shC, I, L, pX pa pb pu pw) = some (some (.int (kdS m x)), (shC, I, L, pX pa pb pu pw)) := by
  rw [B54_0_o1]
  unfold kdS
  by_cases a : x < 0
  · rw [if_pos a, B54_23_o1, B54_24_o1, if_neg (fun y => y.1 a)]
  · rw [if_neg a, if_pos (by decide), show z_0.getD (2 : Int32).toNatClampNeg 0 = 16 by decide]
    by_cases b : x < 16
    · obtain ⟨p, hp, rfl⟩ := i_small (n := 16) a b (by decide)
      rw [if_pos b, g_of1Q_2_0 hp, h.1 _ (by omega)]
      dsimp only [Option.toList_some, Option.toList_none, List.cons_append, List.nil_append]
      rw [B54_20_o1, B54_24_o1, if_pos ⟨a, b⟩, nI_clamp (by omega)]
    · rw [if_neg b, B54_23_o1, B54_24_o1, if_neg (fun y => b y.2)]
/-- up to the choice of the word -/
theorem wo_pre {w : Nat} (h4 : 4 ≤ w) (hw : w ≤ 10) (h : mQ m I J) {p : Int × Int} (hp : fN p) (h6 : L 116 6 = lI p.1) (h7 : L 116 7 = lI p.2) : jv (d + 2) 157 0 [some (.ref 116), some (.int (nI (13 + w))), none, none, none, none, none, none, none, none] [] (shC, I, L, pX pa pb pu pw) = if p.2 = 1 ∧ -2048 ≤ p.1 ∧ p.1 ≤ 2048 then jv (d + 2) 157 120 [some (.ref 116), some (.int (nI (13 + w))), some (.long (lI p.1)), none, some (.int 1), some (.int (lI p.1).toInt32), some (.int (if isSl (lI p.1).toInt32 then 1 else 0)), some (.int (if 0 < kdS m (lI p.1).toInt32 then 1 else 0)), none, none] [.long (-9223372036854775808)] (shC, I, fqC L (0, 0), pX pa pb pu pw) else some (none, (shC, I, fqC L (0, 0), pX pa pb pu pw)) := by
  have go : ∀ y : Int32, jv (d + 2) 157 19 [some (.ref 116), some (.int (nI (13 + w))), some (.long (lI p.1)), none, none, none, none, none, none, none] [.int y] (shC, I, L, pX pa pb pu pw) = jv (d + 2) 157 25 [some (.ref 116), some (.int (nI (13 + w))), some (.long (lI p.1)), none, some (.int y), none, none, none, none, none] [] (shC, I, fqC L (0, 0), pX pa pb pu pw) := by
    intro y
    rw [B157_19, jgo_some (d := d + 1) rfl und_c]
    rfl
  rw [B157_0, h6, h7]
  by_cases a : p.2 = 1
  case neg =>
    rw [if_neg (fun y => a ((is1' hp).mp y)), go, B157_25, if_pos rfl, B157_46, if_neg (fun y => a y.1)]
  rw [if_pos ((is1' hp).mpr a), go, B157_25, if_neg (by decide)]
  by_cases b : p.1 < -2048
  · rw [if_pos ((lcmp_neg _ _).mpr (by rw [hp.1.i]; exact b)), B157_46, if_neg (fun y => by omega)]
  rw [if_neg (fun y => b (by have := (lcmp_neg _ _).mp y; rw [hp.1.i] at this; exact this))]
  by_cases c : 2048 < p.1
  · rw [if_pos ((lcmp_pos _ _).mpr (by rw [hp.1.i]; exact c)), B157_46, if_neg (fun y => by omega)]
  rw [if_neg (fun y => c (by have := (lcmp_pos _ _).mp y; rw [hp.1.i] at this; exact this)), if_pos (show p.2 = 1 ∧ -2048 ≤ p.1 ∧ p.1 ≤ 2048 from ⟨a, by omega, by omega⟩)]
  have fin : ∀ y : Int32, jv (d + 2) 157 68 [some (.ref 116), some (.int (nI (13 + w))), some (.long (lI p.1)), none, some (.int 1), some (.int (lI p.1).toInt32), none, none, none, none] [.int y] (shC, I, fqC L (0, 0), pX pa pb pu pw) = jv (d + 2) 157 120 [some (.ref 116), some (.int (nI (13 + w))), some (.long (lI p.1)), none, some (.int 1), some (.int (lI p.1).toInt32), some (.int y), some (.int (if 0 < kdS m (lI p.1).toInt32 then 1 else 0)), none, none] [.long (-9223372036854775808)] (shC, I, fqC L (0, 0), pX pa pb pu pw) := by
    intro y
    have n16 : ¬ nI (13 + w) = 16 := fun z => by have := (nI_eq (b := 16) (by omega) (by decide)).mp z; omega
    rw [B157_68, jgo_some (d := d + 1) rfl (kindS_c (d := d) h _)]
    dsimp only [Option.toList_some, Option.toList_none, List.cons_append, List.nil_append]
    rw [B157_79]
    by_cases z : 0 < kdS m (lI p.1).toInt32
    · rw [if_pos z, if_pos z, B157_87, if_neg n16, B157_117]
    · rw [if_neg z, if_neg z, B157_87, if_neg n16, B157_117]
  by_cases u : (lI p.1).toInt32 < 0
  · rw [if_pos u, B157_67, fin, if_neg (show ¬ isSl (lI p.1).toInt32 from fun y => y.1 u)]
  rw [if_neg u]
  by_cases v : (lI p.1).toInt32 < 16
  · rw [if_pos v, fin, if_pos (show isSl (lI p.1).toInt32 from ⟨u, v⟩)]
  · rw [if_neg v, B157_67, fin, if_neg (show ¬ isSl (lI p.1).toInt32 from fun y => v y.2)]
theorem stl_fB (h : mK m I J) (x : Int32) (w : Nat) : fB ((stlS m x w : Nat) : Int) := by
  have := stlS_b h x w
  exact ⟨by have : HG = 1000000000000000000 := rfl; omega, by have : HG = 1000000000000000000 := rfl; omega⟩
theorem woA_c {w : Nat} (h4 : 4 ≤ w) (hw : w ≤ 10) (hk : mK m I J) {p : Int × Int} (hp : fN p) (h6 : L 116 6 = lI p.1) (h7 : L 116 7 = lI p.2) : jv (d + 5) 157 0 [some (.ref 116), some (.int (nI (13 + w))), none, none, none, none, none, none, none, none] [] (shC, I, L, pX pa pb pu pw) = some (none, (shC, I, fqC L (woA m I w p), pX pa pb pu pw)) := by
  rw [wo_pre h4 hw hk.q hp h6 h7]
  unfold woA
  by_cases a : p.2 = 1 ∧ -2048 ≤ p.1 ∧ p.1 ≤ 2048
  case neg => rw [if_neg a, if_neg a]
  rw [if_pos a, if_pos a, B157_120]
  generalize (lI p.1).toInt32 = x
  have S0 : ∀ (y : Int64), jv (d + 4) 162 0 [some (.ref 116), some (.long y), none, some (.long 0), none, none, none, none, none, none, none, none] [] (shC, I, fqC L (0, 0), pX pa pb pu pw) = some (none, (shC, I, fqC L (0, 0), pX pa pb pu pw)) := fun y => by rw [set0 (d := d + 3) y, fqC_fqC]
  have S1 : ∀ (y : Int32), jv (d + 4) 162 0 [some (.ref 116), some (.long y.toInt64), none, some (.long 1), none, none, none, none, none, none, none, none] [] (shC, I, fqC L (0, 0), pX pa pb pu pw) = some (none, (shC, I, fqC L (y.toInt, 1), pX pa pb pu pw)) := fun y => by rw [set1 (d := d + 3) y, fqC_fqC]
  have SS : ∀ (y z : Int), fB y → fB z → jv (d + 4) 162 0 [some (.ref 116), some (.long (lI y)), none, some (.long (lI z)), none, none, none, none, none, none, none, none] [] (shC, I, fqC L (0, 0), pX pa pb pu pw) = some (none, (shC, I, fqC L (fS y z), pX pa pb pu pw)) := fun y z hy hz => by
    have := set_c (d := d + 3) (I := I) (L := fqC L (0, 0)) (pa := pa) (pb := pb) (pu := pu) (pw := pw) (lI y) (lI z)
    rw [hy.i, hz.i, fqC_fqC] at this
    exact this
  have T : ∀ w, w < 3 → jv (d + 4) 59 0 [some (.ref 1), some (.int x), some (.int (nI w)), none, none, none, none, none, none, none] [] (shC, I, fqC L (0, 0), pX pa pb pu pw) = some (some (.long (lI (stlS m x w))), (shC, I, fqC L (0, 0), pX pa pb pu pw)) := fun w hw => steel_c hk x hw
  have F := fun w => stl_fB (w := w) hk x
  rcases (show w = 4 ∨ w = 5 ∨ w = 6 ∨ w = 7 ∨ w = 8 ∨ w = 9 ∨ w = 10 by omega) with z | z | z | z | z | z | z <;> subst z
  · -- area
    rw [if_neg (by decide), if_neg (by decide), if_neg (by decide), if_neg (by decide), if_pos (by decide), jgo_some (d := d + 4) rfl (T 0 (by decide))]
    dsimp only [Option.toList_some, Option.toList_none, List.cons_append, List.nil_append]
    rw [B157_239]
    by_cases q : isSl x
    · rw [if_pos q, if_neg (by decide), B157_249, jgo_some (d := d + 4) rfl (SS _ 1 (F 0) fB1)]
      dsimp only [Option.toList_some, Option.toList_none, List.cons_append, List.nil_append]
      rw [B157_252, B157_439, show woB m I 4 x = fS (stlS m x 0) 1 from if_pos q]
    · rw [if_neg q, if_pos rfl, B157_249, jgo_some (d := d + 4) rfl (S0 _)]
      dsimp only [Option.toList_some, Option.toList_none, List.cons_append, List.nil_append]
      rw [B157_252, B157_439, show woB m I 4 x = (0, 0) from if_neg q]
  · -- axis
    rw [if_neg (by decide), if_neg (by decide), if_neg (by decide), if_neg (by decide), if_neg (by decide), if_pos (by decide), jgo_some (d := d + 4) rfl (T 1 (by decide))]
    dsimp only [Option.toList_some, Option.toList_none, List.cons_append, List.nil_append]
    rw [B157_266]
    by_cases q : isSl x
    · rw [if_pos q, if_neg (by decide), jgo_some (d := d + 4) rfl (T 0 (by decide))]
      dsimp only [Option.toList_some, Option.toList_none, List.cons_append, List.nil_append]
      rw [B157_281, B157_285, jgo_some (d := d + 4) rfl (SS _ _ (F 1) (F 0))]
      dsimp only [Option.toList_some, Option.toList_none, List.cons_append, List.nil_append]
      rw [B157_288, B157_439, show woB m I 5 x = fS (stlS m x 1) (stlS m x 0) from if_pos q]
    · rw [if_neg q, if_pos rfl, B157_285, jgo_some (d := d + 4) rfl (S0 _)]
      dsimp only [Option.toList_some, Option.toList_none, List.cons_append, List.nil_append]
      rw [B157_288, B157_439, show woB m I 5 x = (0, 0) from if_neg q]
  · -- second
    have e160 : jv (d + 4) 160 0 [some (.ref 116), some (.int x), none, none] [] (shC, I, fqC L (0, 0), pX pa pb pu pw) = some (none, (shC, I, fqC L (woB m I 6 x), pX pa pb pu pw)) := by
      have T' : ∀ w L, w < 3 → jv (d + 3) 59 0 [some (.ref 1), some (.int x), some (.int (nI w)), none, none, none, none, none, none, none] [] (shC, I, L, pX pa pb pu pw) = some (some (.long (lI (stlS m x w))), (shC, I, L, pX pa pb pu pw)) := fun w L hw => steel_c hk x hw
      rw [B160_0]
      by_cases q1 : x < 0
      · rw [if_pos q1, B160_78, show woB m I 6 x = (0, 0) from if_neg (show ¬ isSl x from fun y => y.1 q1)]
      rw [if_neg q1]
      by_cases q2 : x < 16
      · have b1 := fA_b 2 (stlS m x 1) 1 (stlS m x 1) 1
        have b2 := fA_b 3 (fA 2 (stlS m x 1) 1 (stlS m x 1) 1).1 (fA 2 (stlS m x 1) 1 (stlS m x 1) 1).2 (stlS m x 0) 1
        have r1 := act_c (d := d + 1) (I := I) (L := fqC L (0, 0)) (pa := pa) (pb := pb) (pu := pu) (pw := pw) (k := 2) (by decide) (F 1) fB1 (F 1) fB1
        have r2 := act_c (d := d + 1) (I := I) (L := fqC L (fA 2 (stlS m x 1) 1 (stlS m x 1) 1)) (pa := pa) (pb := pb) (pu := pu) (pw := pw) (k := 3) (by decide) b1.1 (fN.d b1) (F 0) fB1
        have r3 := act_c (d := d + 1) (I := I) (L := fqC L (fA 3 (fA 2 (stlS m x 1) 1 (stlS m x 1) 1).1 (fA 2 (stlS m x 1) 1 (stlS m x 1) 1).2 (stlS m x 0) 1)) (pa := pa) (pb := pb) (pu := pu) (pw := pw) (k := 1) (by decide) (F 2) fB1 b2.1 (fN.d b2)
        rw [fqC_fqC] at r1 r2 r3
        rw [if_pos q2, jgo_some (d := d + 3) rfl (T' 1 _ (by decide))]
        dsimp only [Option.toList_some, Option.toList_none, List.cons_append, List.nil_append]
        rw [B160_19, jgo_some (d := d + 3) rfl r1]
        dsimp only [Option.toList_some, Option.toList_none, List.cons_append, List.nil_append]
        rw [B160_30, jgo_some (d := d + 3) rfl (T' 0 _ (by decide))]
        dsimp only [Option.toList_some, Option.toList_none, List.cons_append, List.nil_append]
        rw [B160_50, fqC_6, fqC_7, jgo_some (d := d + 3) rfl r2]
        dsimp only [Option.toList_some, Option.toList_none, List.cons_append, List.nil_append]
        rw [B160_54, jgo_some (d := d + 3) rfl (T' 2 _ (by decide))]
        dsimp only [Option.toList_some, Option.toList_none, List.cons_append, List.nil_append]
        rw [B160_66, fqC_6, fqC_7, jgo_some (d := d + 3) rfl r3]
        dsimp only [Option.toList_some, Option.toList_none, List.cons_append, List.nil_append]
        rw [B160_78, show woB m I 6 x = fA 1 (stlS m x 2) 1 (fA 3 (fA 2 (stlS m x 1) 1 (stlS m x 1) 1).1 (fA 2 (stlS m x 1) 1 (stlS m x 1) 1).2 (stlS m x 0) 1).1 (fA 3 (fA 2 (stlS m x 1) 1 (stlS m x 1) 1).1 (fA 2 (stlS m x 1) 1 (stlS m x 1) 1).2 (stlS m x 0) 1).2 from if_pos (show isSl x from ⟨q1, q2⟩)]
      · rw [if_neg q2, B160_78, show woB m I 6 x = (0, 0) from if_neg (show ¬ isSl x from fun y => q2 y.2)]
    rw [if_neg (by decide), if_neg (by decide), if_neg (by decide), if_neg (by decide), if_neg (by decide), if_neg (by decide), if_pos (by decide), jgo_some (d := d + 4) rfl e160]
    dsimp only [Option.toList_some, Option.toList_none, List.cons_append, List.nil_append]
    rw [B157_297, B157_439]
  · -- room
    rw [if_neg (by decide), if_neg (by decide), if_neg (by decide), if_neg (by decide), if_neg (by decide), if_neg (by decide), if_neg (by decide), if_pos (by decide)]
    by_cases q : 0 < kdS m x
    · have sl : isSl x := by
        by_cases y : isSl x
        · exact y
        · unfold kdS at q; rw [if_neg y] at q; exact absurd q (by decide)
      obtain ⟨n, hn, rfl⟩ := i_small (n := 16) sl.1 sl.2 (by decide)
      have R := room_N hk.q hn
      rw [if_pos q, if_neg (by decide), jgo_some (d := d + 4) rfl ((R.2 I J (fqC L (0, 0)) L pa pb pu pw (d + 2) 0 hk.q).1)]
      dsimp only [Option.toList_some, Option.toList_none, List.cons_append, List.nil_append]
      rw [B157_315, B157_320, if_neg (by decide), B157_330, jgo_some (d := d + 4) rfl (S1 (nI (roomN m n)))]
      dsimp only [Option.toList_some, Option.toList_none, List.cons_append, List.nil_append]
      rw [B157_333, B157_439, show woB m I 7 (nI n) = (((roomN m (nI n).toNatClampNeg : Nat) : Int), 1) from if_pos q, nI_clamp (n := n) (by omega), nI_toInt (by have := R.1; omega)]
    · rw [if_neg q, if_pos rfl, B157_320, if_pos rfl, B157_330, jgo_some (d := d + 4) rfl (S0 _)]
      dsimp only [Option.toList_some, Option.toList_none, List.cons_append, List.nil_append]
      rw [B157_333, B157_439, show woB m I 7 x = (0, 0) from if_neg q]
  · -- fill
    rw [if_neg (by decide), if_neg (by decide), if_neg (by decide), if_neg (by decide), if_neg (by decide), if_neg (by decide), if_neg (by decide), if_neg (by decide), if_pos (by decide)]
    by_cases q : 0 < kdS m x
    · have sl : isSl x := by
        by_cases y : isSl x
        · exact y
        · unfold kdS at q; rw [if_neg y] at q; exact absurd q (by decide)
      obtain ⟨n, hn, rfl⟩ := i_small (n := 16) sl.1 sl.2 (by decide)
      have g0 : jv (d + 4) 51 0 [some (.ref 1), some (.int 4), some (.int (nI n)), some (.int 0), none] [] (shC, I, fqC L (0, 0), pX pa pb pu pw) = some (some (.int (m (400 + n * 2))), (shC, I, fqC L (0, 0), pX pa pb pu pw)) := by
        rw [← hk.1 (400 + n * 2) (by omega)]; exact of_1 (a := 4) (b := n) (c := 0) (by decide) hn (by decide) none
      rw [if_pos q, if_neg (by decide), jgo_some (d := d + 4) rfl g0]
      dsimp only [Option.toList_some, Option.toList_none, List.cons_append, List.nil_append]
      rw [B157_353, B157_358, if_neg (by decide), B157_368, jgo_some (d := d + 4) rfl (S1 _)]
      dsimp only [Option.toList_some, Option.toList_none, List.cons_append, List.nil_append]
      rw [B157_371, B157_439, show woB m I 8 (nI n) = ((m (400 + (nI n).toNatClampNeg * 2)).toInt, 1) from if_pos q, nI_clamp (n := n) (by omega)]
    · rw [if_neg q, if_pos rfl, B157_358, if_pos rfl, B157_368, jgo_some (d := d + 4) rfl (S0 _)]
      dsimp only [Option.toList_some, Option.toList_none, List.cons_append, List.nil_append]
      rw [B157_371, B157_439, show woB m I 8 x = (0, 0) from if_neg q]
  · -- price
    have c78 : ∃ y : Int32, jv (d + 4) 78 0 [some (.ref 96), some (.int x)] [] (shC, I, fqC L (0, 0), pX pa pb pu pw) = some (some (.int y), (shC, I, fqC L (0, 0), pX pa pb pu pw)) ∧ (¬ x < 0 → x < 6 → y = I 97 x.toNatClampNeg) := by
      rw [B78_0]
      by_cases q1 : x < 0
      · rw [if_pos q1, B78_19, B78_20]; exact ⟨_, rfl, fun y => absurd q1 y⟩
      rw [if_neg q1]
      by_cases q2 : x < 6
      · obtain ⟨n, hn, rfl⟩ := i_small (n := 6) q1 q2 (by decide)
        rw [if_pos q2, if_pos (j_in_nI hn (by decide)), B78_20]; exact ⟨_, rfl, fun _ _ => rfl⟩
      · rw [if_neg q2, B78_19, B78_20]; exact ⟨_, rfl, fun _ y => absurd y q2⟩
    have c77 : jv (d + 4) 77 0 [some (.ref 96), some (.int x)] [] (shC, I, fqC L (0, 0), pX pa pb pu pw) = some (some (.int (if I 96 0 ≠ 0 ∧ (¬ x < 0 ∧ x < 6) ∧ ¬ I 97 x.toNatClampNeg < 0 then 1 else 0)), (shC, I, fqC L (0, 0), pX pa pb pu pw)) := by
      rw [B77_0]
      by_cases q0 : I 96 0 = 0
      · rw [if_pos q0, B77_30, B77_31, if_pos nb0, if_neg (fun y => y.1 q0)]
      rw [if_neg q0]
      by_cases q1 : x < 0
      · rw [if_pos q1, B77_30, B77_31, if_pos nb0, if_neg (fun y => y.2.1.1 q1)]
      rw [if_neg q1]
      by_cases q2 : x < 6
      · obtain ⟨n, hn, rfl⟩ := i_small (n := 6) q1 q2 (by decide)
        rw [if_pos q2, if_pos (j_in_nI hn (by decide))]
        by_cases q3 : I 97 (nI n).toNatClampNeg < 0
        · rw [if_pos q3, B77_30, B77_31, if_pos nb0, if_neg (fun y => y.2.2 q3)]
        · rw [if_neg q3, B77_31, if_pos nb1, if_pos ⟨q0, ⟨q1, q2⟩, q3⟩]
      · rw [if_neg q2, B77_30, B77_31, if_pos nb0, if_neg (fun y => q2 y.2.1.2)]
    obtain ⟨y, y1, y2⟩ := c78
    rw [if_neg (by decide), if_neg (by decide), if_neg (by decide), if_neg (by decide), if_neg (by decide), if_neg (by decide), if_neg (by decide), if_neg (by decide), if_neg (by decide), if_pos (by decide), jgo_some (d := d + 4) rfl y1]
    dsimp only [Option.toList_some, Option.toList_none, List.cons_append, List.nil_append]
    rw [B157_384, jgo_some (d := d + 4) rfl c77]
    dsimp only [Option.toList_some, Option.toList_none, List.cons_append, List.nil_append]
    rw [B157_394]
    by_cases q : I 96 0 ≠ 0 ∧ (¬ x < 0 ∧ x < 6) ∧ ¬ I 97 x.toNatClampNeg < 0
    · rw [if_pos q, if_neg (by decide), B157_402, y2 q.2.1.1 q.2.1.2, jgo_some (d := d + 4) rfl (S1 _)]
      dsimp only [Option.toList_some, Option.toList_none, List.cons_append, List.nil_append]
      rw [B157_405, B157_439, show woB m I 9 x = ((I 97 x.toNatClampNeg).toInt, 1) from if_pos q]
    · rw [if_neg q, if_pos rfl, B157_402, jgo_some (d := d + 4) rfl (S0 _)]
      dsimp only [Option.toList_some, Option.toList_none, List.cons_append, List.nil_append]
      rw [B157_405, B157_439, show woB m I 9 x = (0, 0) from if_neg q]
  · -- begin
    have c134 : ∃ y : Int32, jv (d + 4) 134 0 [some (.ref 107), some (.int x)] [] (shC, I, fqC L (0, 0), pX pa pb pu pw) = some (some (.int y), (shC, I, fqC L (0, 0), pX pa pb pu pw)) ∧ (¬ x < 0 → x < 7 → y = I 110 x.toNatClampNeg) := by
      rw [B134_0]
      by_cases q1 : x < 0
      · rw [if_pos q1, B134_19, B134_20]; exact ⟨_, rfl, fun y => absurd q1 y⟩
      rw [if_neg q1]
      by_cases q2 : x < 7
      · obtain ⟨n, hn, rfl⟩ := i_small (n := 7) q1 q2 (by decide)
        rw [if_pos q2, if_pos (j_in_nI hn (by decide)), B134_20]; exact ⟨_, rfl, fun _ _ => rfl⟩
      · rw [if_neg q2, B134_19, B134_20]; exact ⟨_, rfl, fun _ y => absurd y q2⟩
    have c133 : jv (d + 4) 133 0 [some (.ref 107), some (.int x)] [] (shC, I, fqC L (0, 0), pX pa pb pu pw) = some (some (.int (if I 107 1 ≠ 0 ∧ ¬ I 107 5 < 0 ∧ (¬ x < 0 ∧ x < 7) ∧ ¬ I 111 x.toNatClampNeg < 0 then 1 else 0)), (shC, I, fqC L (0, 0), pX pa pb pu pw)) := by
      rw [B133_0]
      by_cases q0 : I 107 1 = 0
      · rw [if_pos q0, B133_37, B133_38, if_pos nb0, if_neg (fun y => y.1 q0)]
      rw [if_neg q0]
      by_cases q5 : I 107 5 < 0
      · rw [if_pos q5, B133_37, B133_38, if_pos nb0, if_neg (fun y => y.2.1 q5)]
      rw [if_neg q5]
      by_cases q1 : x < 0
      · rw [if_pos q1, B133_37, B133_38, if_pos nb0, if_neg (fun y => y.2.2.1.1 q1)]
      rw [if_neg q1]
      by_cases q2 : x < 7
      · obtain ⟨n, hn, rfl⟩ := i_small (n := 7) q1 q2 (by decide)
        rw [if_pos q2, if_pos (j_in_nI hn (by decide))]
        by_cases q3 : I 111 (nI n).toNatClampNeg < 0
        · rw [if_pos q3, B133_37, B133_38, if_pos nb0, if_neg (fun y => y.2.2.2 q3)]
        · rw [if_neg q3, B133_38, if_pos nb1, if_pos ⟨q0, q5, ⟨q1, q2⟩, q3⟩]
      · rw [if_neg q2, B133_37, B133_38, if_pos nb0, if_neg (fun y => q2 y.2.2.1.2)]
    obtain ⟨y, y1, y2⟩ := c134
    rw [if_neg (by decide), if_neg (by decide), if_neg (by decide), if_neg (by decide), if_neg (by decide), if_neg (by decide), if_neg (by decide), if_neg (by decide), if_neg (by decide), if_neg (by decide), jgo_some (d := d + 4) rfl y1]
    dsimp only [Option.toList_some, Option.toList_none, List.cons_append, List.nil_append]
    rw [B157_418, jgo_some (d := d + 4) rfl c133]
    dsimp only [Option.toList_some, Option.toList_none, List.cons_append, List.nil_append]
    rw [B157_428]
    by_cases q : I 107 1 ≠ 0 ∧ ¬ I 107 5 < 0 ∧ (¬ x < 0 ∧ x < 7) ∧ ¬ I 111 x.toNatClampNeg < 0
    · rw [if_pos q, if_neg (by decide), B157_436, y2 q.2.2.1.1 q.2.2.1.2, jgo_some (d := d + 4) rfl (S1 _)]
      dsimp only [Option.toList_some, Option.toList_none, List.cons_append, List.nil_append]
      rw [B157_439, show woB m I 10 x = ((I 110 x.toNatClampNeg).toInt, 1) from if_pos q]
    · rw [if_neg q, if_pos rfl, B157_436, jgo_some (d := d + 4) rfl (S0 _)]
      dsimp only [Option.toList_some, Option.toList_none, List.cons_append, List.nil_append]
      rw [B157_439, show woB m I 10 x = (0, 0) from if_neg q]
end EVAY
