/-! SEA: all runs, second one -/
section SEAU
variable {d e : Nat} {I J : Nat → Nat → Int32} {L L' : Nat → Nat → Int64} {m : Nat → Int32} {o : Nat}
def xJ (J : Nat → Nat → Int32) (c j : Nat) : Int := (J c j).toInt
theorem xJ_v (J : Nat → Nat → Int32) (c j : Nat) : J c j = vI (xJ J c j) := (Int32.ofInt_toInt (J c j)).symm
theorem xJ_e {c j : Nat} {z : Int} (h : J c j = vI z) (h1 : -2147483648 ≤ z) (h2 : z < 2147483648) : xJ J c j = z := by unfold xJ; rw [h, vI_i h1 h2]
/-- the runs a .. b of a column -/
def rnY (J : Nat → Nat → Int32) (a b : Nat) (lo hi : Int) (F : Int → Int) : Prop := a ≤ b ∧ (∀ j, a ≤ j → j < b → xJ J 45 j < xJ J 46 j ∧ 0 ≤ xJ J 45 j ∧ xJ J 46 j ≤ hi ∧ -100 ≤ xJ J 47 j ∧ xJ J 47 j ≤ 100 ∧ (∀ y, xJ J 45 j ≤ y → y < xJ J 46 j → F y = xJ J 47 j) ∧ (j + 1 < b → xJ J 45 (j + 1) = xJ J 46 j) ∧ (j + 1 = b → xJ J 46 j = hi)) ∧ (a < b → xJ J 45 a = lo) ∧ (a = b → hi ≤ lo)
theorem rnY.cg {J' : Nat → Nat → Int32} {a b : Nat} {lo hi : Int} {F : Int → Int} (h : rnY J a b lo hi F) (hj : ∀ j, j < b → J' 45 j = J 45 j ∧ J' 46 j = J 46 j ∧ J' 47 j = J 47 j) : rnY J' a b lo hi F := by
  have e1 : ∀ j, j < b → xJ J' 45 j = xJ J 45 j ∧ xJ J' 46 j = xJ J 46 j ∧ xJ J' 47 j = xJ J 47 j := fun j h1 => by
    unfold xJ; rw [(hj j h1).1, (hj j h1).2.1, (hj j h1).2.2]; exact ⟨rfl, rfl, rfl⟩
  obtain ⟨h1, h2, h3, h4⟩ := h
  refine ⟨h1, fun j j1 j2 => ?_, fun z => by rw [(e1 a z).1]; exact h3 z, h4⟩
  obtain ⟨g1, g2, g3, g4, g5, g6, g7, g8⟩ := h2 j j1 j2
  rw [(e1 j j2).1, (e1 j j2).2.1, (e1 j j2).2.2]
  exact ⟨g1, g2, g3, g4, g5, g6, fun z => by rw [(e1 (j + 1) z).1]; exact g7 z, g8⟩
/-- the runs of a column from a height on -/
theorem run_col (hr : ∀ p, p < 16 → spR m p) (hk : opKd m o) {s k : Nat} (hs : s < 16) (hk16 : k < 16) {en : Int} (e0 : en ≤ 128000) (e1 : 0 ≤ en) : ∀ (w : Nat) (z : Int) (n : Nat) (J : Nat → Nat → Int32) (o6 o7 o8 o9 o10 : Option Value), cB m z 16 ≤ w → 0 ≤ z → z ≤ 128000 → n + cB m z 16 ≤ 8490 → mQ m I J → J 0 62 = nI o → ∃ n' J' z' p6 p7 p8 p9 p10, n' ≤ n + cB m z 16 + 1 ∧ (∀ c, c ≠ 45 → c ≠ 46 → c ≠ 47 → J' c = J c) ∧ (∀ c j, j < n → J' c j = J c j) ∧ rnY J' n n' z en (pFo m o s k) ∧ jv (e + 2) 301 63 [some (.ref 0), some (.int (nI n)), some (.int (nI s)), some (.int (nI k)), some (.int (vI z)), some (.int (vI en)), o6, o7, o8, o9, o10] [] (shR, J, L, pR) = jv (e + 2) 301 12 [some (.ref 0), some (.int (nI n')), some (.int (nI s)), some (.int (nI (k + 1))), some (.int z'), some (.int (vI en)), p6, p7, p8, p9, p10] [] (shR, J', L, pR) := by
  intro w
  induction w using Nat.strongRecOn with
  | _ w ih =>
    intro z n J o6 o7 o8 o9 o10 hw z0 z1 hn h ho
    by_cases g : z < en
    case neg =>
      refine ⟨n, J, vI z, o6, o7, o8, o9, o10, by omega, fun _ _ _ _ => rfl, fun _ _ _ => rfl, ⟨Nat.le_refl _, fun j j1 j2 => by omega, fun y => by omega, fun _ => by omega⟩, ?_⟩
      rw [B301_63, if_neg (fun y => g ((vI_lt (by omega) (by omega) (by omega) (by omega)).mp y)), nI_1]
    rw [B301_63, if_pos ((vI_lt (by omega) (by omega) (by omega) (by omega)).mpr g)]
    obtain ⟨bits, to, p9, p10, R, rj⟩ := run_p (e := e) (L := L) h ho hk hs hk16 z0 e0 (l1 := nI n) 16 0 16 en o9 o10 (by omega) ⟨g, Int.le_refl _, fun p' hp' => by omega, Or.inl ⟨fun p' hp' => by omega, rfl⟩, Or.inl rfl⟩
    obtain ⟨⟨b0, b1⟩, bF⟩ := R.F h hr hk hs hk16 z0 e0
    obtain ⟨r1, r2, -, -, r5⟩ := R
    have rj' := rj
    rw [show (16 : Int32) = vI 16 from rfl, show (0 : Int32) = nI 0 from rfl, rj, B301_81, if_neg (by decide), if_pos (j_in_nI (by omega) (by decide)), if_pos (j_in_nI (by omega) (by decide)), if_pos (j_in_nI (by omega) (by decide)), nI_1, nI_clamp (by omega)]
    generalize hJ1 : j_up (j_up (j_up J 45 n (vI z)) 46 n (vI to)) 47 n (vI bits) = J1
    have c45 : ∀ j, J1 45 j = if j = n then vI z else J 45 j := fun j => by rw [← hJ1, j_up_cell _ (by decide), j_up_cell _ (by decide), j_up_own]
    have c46 : ∀ j, J1 46 j = if j = n then vI to else J 46 j := fun j => by rw [← hJ1, j_up_cell _ (by decide), j_up_own, j_up_cell _ (by decide)]
    have c47 : ∀ j, J1 47 j = if j = n then vI bits else J 47 j := fun j => by rw [← hJ1, j_up_own, j_up_cell _ (by decide), j_up_cell _ (by decide)]
    have cc : ∀ c, c ≠ 45 → c ≠ 46 → c ≠ 47 → J1 c = J c := fun c h1 h2 h3 => by rw [← hJ1, j_up_cell _ h3, j_up_cell _ h2, j_up_cell _ h1]
    have cl : ∀ c j, j < n → J1 c j = J c j := by
      intro c j hj
      by_cases y1 : c = 45
      · rw [y1, c45, if_neg (by omega)]
      by_cases y2 : c = 46
      · rw [y2, c46, if_neg (by omega)]
      by_cases y3 : c = 47
      · rw [y3, c47, if_neg (by omega)]
      rw [cc c y1 y2 y3]
    have x45 : xJ J1 45 n = z := xJ_e (by rw [c45, if_pos rfl]) (by omega) (by omega)
    have x46 : xJ J1 46 n = to := xJ_e (by rw [c46, if_pos rfl]) (by omega) (by omega)
    have x47 : xJ J1 47 n = bits := xJ_e (by rw [c47, if_pos rfl]) (by omega) (by omega)
    have h1 : mQ m I J1 := ⟨h.1, fun q hq => by rw [cc 6 (by decide) (by decide) (by decide)]; exact h.2.1 q hq, h.2.2.1, rCst_eq1 h.2.2.2 (fun c c1 c6 => cc c (by omega) (by omega) (by omega))⟩
    have o1 : J1 0 62 = nI o := by rw [cc 0 (by decide) (by decide) (by decide)]; exact ho
    -- the rest
    have rest : ∀ n' J', n + 1 ≤ n' → (∀ c j, j < n + 1 → J' c j = J1 c j) → rnY J' (n + 1) n' to en (pFo m o s k) → rnY J' n n' z en (pFo m o s k) := by
      intro n' J' hn' hc ⟨y1, y2, y3, y4⟩
      have f45 : xJ J' 45 n = z := by rw [← x45]; unfold xJ; rw [hc 45 n (by omega)]
      have f46 : xJ J' 46 n = to := by rw [← x46]; unfold xJ; rw [hc 46 n (by omega)]
      have f47 : xJ J' 47 n = bits := by rw [← x47]; unfold xJ; rw [hc 47 n (by omega)]
      refine ⟨by omega, fun j j1 j2 => ?_, fun _ => f45, fun q => by omega⟩
      by_cases q : j = n
      · subst q
        rw [f45, f46, f47]
        refine ⟨r1, z0, r2, by omega, by omega, bF, fun q => y3 q, fun q => ?_⟩
        have := y4 q
        omega
      · exact y2 j (by omega) j2
    by_cases q : to = en
    · subst q
      refine ⟨n + 1, J1, vI to, some (.int (vI bits)), some (.int (vI to)), some (.int (nI 16)), p9, p10, by omega, cc, cl, rest (n + 1) J1 (by omega) (fun _ _ _ => rfl) ⟨Nat.le_refl _, fun j j1 j2 => by omega, fun y => by omega, fun _ => by omega⟩, ?_⟩
      rw [B301_63, if_neg (fun y => Int.lt_irrefl _ ((vI_lt (by omega) (by omega) (by omega) (by omega)).mp y)), nI_1]
    · obtain ⟨p', p1, p2⟩ := r5.resolve_left q
      have lt := cB_lt (m := m) r1 p2 16 p1
      obtain ⟨n', J', z', q6, q7, q8, q9, q10, i1, i2, i3, i4, i5⟩ := ih (cB m to 16) (by omega) to (n + 1) J1 (some (.int (vI bits))) (some (.int (vI to))) (some (.int (nI 16))) p9 p10 (Nat.le_refl _) (by omega) (by omega) (by omega) h1 o1
      exact ⟨n', J', z', q6, q7, q8, q9, q10, by omega, fun c c1 c2 c3 => by rw [i2 c c1 c2 c3, cc c c1 c2 c3], fun c j hj => by rw [i3 c j (by omega), cl c j hj], rest n' J' i4.1 i3 i4, i5⟩
/-- the runs of the columns ahead of column i -/
def rnZ (m : Nat → Int32) (o : Nat) (J : Nat → Nat → Int32) (f : Nat → Nat) (i : Nat) : Prop := (∀ i', i' < i → J 44 i' = nI (f i')) ∧ (∀ i', i' ≤ i → f i' ≤ 33 * i') ∧ ∀ i', i' < i → f (i' + 1) ≤ f i ∧ rnY J (f i') (f (i' + 1)) (hLo m i') (hHi m i') (pFo m o (i' / 16) (i' % 16))
theorem runs_r (h : mQ m I J) (hr : ∀ p, p < 16 → spR m p) (hk : opKd m o) (ho : J 0 62 = nI o) : ∃ J' f, (∀ c, c < 44 ∨ 47 < c → J' c = J c) ∧ rnZ m o J' f 256 ∧ J' 44 256 = nI (f 256) ∧ jv (e + 2) 301 0 [some (.ref 0), none, none, none, none, none, none, none, none, none, none] [] (shR, J, L, pR) = some (none, (shR, J', L, pR)) := by
  have col : ∀ {s k : Nat} (f : Nat → Nat) (J : Nat → Nat → Int32) (o4 o5 o6 o7 o8 o9 o10 : Option Value), s < 16 → k < 16 → mQ m I J → J 0 62 = nI o → rnZ m o J f (16 * s + k) → ∃ f' J' p4 p5 p6 p7 p8 p9 p10, (∀ c, c < 44 ∨ 47 < c → J' c = J c) ∧ rnZ m o J' f' (16 * s + k + 1) ∧ jv (e + 2) 301 12 [some (.ref 0), some (.int (nI (f (16 * s + k)))), some (.int (nI s)), some (.int (nI k)), o4, o5, o6, o7, o8, o9, o10] [] (shR, J, L, pR) = jv (e + 2) 301 12 [some (.ref 0), some (.int (nI (f' (16 * s + k + 1)))), some (.int (nI s)), some (.int (nI (k + 1))), p4, p5, p6, p7, p8, p9, p10] [] (shR, J', L, pR) := by
    intro s k f J o4 o5 o6 o7 o8 o9 o10 hs hk16 h ho hz
    obtain ⟨z1, z2, z3⟩ := hz
    have fi := z2 (16 * s + k) (Nat.le_refl _)
    have e1 : (16 : Int32) * nI s + nI k = nI (16 * s + k) := by rw [show (16 : Int32) = nI 16 from rfl, nI_mul, nI_add]
    have d1 : (16 * s + k) / 16 = s := by omega
    have d2 : (16 * s + k) % 16 = k := by omega
    obtain ⟨l0, l1, l2, l3⟩ := h.lo (i := 16 * s + k) (by omega)
    rw [B301_12, if_pos (show nI k < 16 from nI_lt (b := 16) (by omega) (by decide)), e1, if_pos (j_in_nI (by omega) (by decide)), nI_clamp (by omega)]
    generalize hJ1 : j_up J 44 (16 * s + k) (nI (f (16 * s + k))) = J1
    have cc : ∀ c, c ≠ 44 → J1 c = J c := fun c hc => by rw [← hJ1, j_up_cell _ hc]
    have c44 : ∀ j, J1 44 j = if j = 16 * s + k then nI (f (16 * s + k)) else J 44 j := fun j => by rw [← hJ1, j_up_own]
    have h1 : mQ m I J1 := ⟨h.1, fun q hq => by rw [cc 6 (by decide)]; exact h.2.1 q hq, h.2.2.1, rCst_eq1 h.2.2.2 (fun c c1 c6 => cc c (by omega))⟩
    have o1 : J1 0 62 = nI o := by rw [cc 0 (by decide)]; exact ho
    have v1 : (64 : Int32) * m (8 + s * 9 + btX k) = vI (hLo m (16 * s + k)) := by
      rw [hLo, d1, d2, mv_v m (8 + s * 9 + btX k), show (64 : Int32) = vI 64 from rfl, vI_mul]
    have v2 : (64 : Int32) * m (16 + s * 9) = vI (hHi m (16 * s + k)) := by
      rw [hHi, d1, show 8 + s * 9 + 8 = 16 + s * 9 by omega, mv_v m (16 + s * 9), show (64 : Int32) = vI 64 from rfl, vI_mul]
    rw [jgo_some (d := e + 1) rfl (btmQ_r h1 hs hk16)]
    dsimp only [Option.toList_some, List.cons_append, List.nil_append]
    rw [B301_42, g_at_1_8 h1.2.2.2, v1]
    dsimp only [Option.toList_some, List.cons_append, List.nil_append]
    rw [B301_59, if_pos (j_in_nI (by omega) (by decide)), nI_clamp (by omega), h1.2.1 _ (by omega), v2]
    have cle := cB_le (m := m) (hLo m (16 * s + k)) 16
    obtain ⟨n', J2, z', q6, q7, q8, q9, q10, i1, i2, i3, i4, i5⟩ := run_col (e := e) (L := L) (I := I) hr hk hs hk16 l3 l2 32 (hLo m (16 * s + k)) (f (16 * s + k)) J1 o6 o7 o8 o9 o10 cle l0 l1 (by omega) h1 o1
    refine ⟨fun i' => if i' ≤ 16 * s + k then f i' else n', J2, some (.int z'), some (.int (vI (hHi m (16 * s + k)))), q6, q7, q8, q9, q10, fun c hc => ?_, ⟨fun i' hi' => ?_, fun i' hi' => ?_, fun i' hi' => ?_⟩, ?_⟩
    · rw [i2 c (by omega) (by omega) (by omega), cc c (by omega)]
    · dsimp only
      rw [if_pos (by omega), i2 44 (by decide) (by decide) (by decide), c44]
      by_cases q : i' = 16 * s + k
      · rw [if_pos q, q]
      · rw [if_neg q]; exact z1 i' (by omega)
    · dsimp only
      by_cases q : i' ≤ 16 * s + k
      · rw [if_pos q]; exact z2 i' q
      · rw [if_neg q, show i' = 16 * s + k + 1 by omega]; omega
    · dsimp only
      rw [if_neg (show ¬ 16 * s + k + 1 ≤ 16 * s + k by omega), if_pos (show i' ≤ 16 * s + k by omega)]
      by_cases q : i' = 16 * s + k
      · rw [if_neg (by omega), q, d1, d2]
        exact ⟨Nat.le_refl _, i4⟩
      · rw [if_pos (by omega)]
        obtain ⟨y1, y2⟩ := z3 i' (by omega)
        refine ⟨Nat.le_trans y1 i4.1, y2.cg (fun j hj => ?_)⟩
        rw [i3 45 j (by omega), i3 46 j (by omega), i3 47 j (by omega), cc 45 (by decide), cc 46 (by decide), cc 47 (by decide)]
        exact ⟨rfl, rfl, rfl⟩
    · dsimp only
      rw [i5, if_neg (show ¬ 16 * s + k + 1 ≤ 16 * s + k by omega)]
  have cols : ∀ (r : Nat) {s k : Nat} (f : Nat → Nat) (J : Nat → Nat → Int32) (o4 o5 o6 o7 o8 o9 o10 : Option Value), k + r = 16 → s < 16 → mQ m I J → J 0 62 = nI o → rnZ m o J f (16 * s + k) → ∃ f' J' p4 p5 p6 p7 p8 p9 p10, (∀ c, c < 44 ∨ 47 < c → J' c = J c) ∧ rnZ m o J' f' (16 * (s + 1)) ∧ jv (e + 2) 301 12 [some (.ref 0), some (.int (nI (f (16 * s + k)))), some (.int (nI s)), some (.int (nI k)), o4, o5, o6, o7, o8, o9, o10] [] (shR, J, L, pR) = jv (e + 2) 301 4 [some (.ref 0), some (.int (nI (f' (16 * (s + 1))))), some (.int (nI (s + 1))), some (.int (nI 16)), p4, p5, p6, p7, p8, p9, p10] [] (shR, J', L, pR) := by
    intro r
    induction r with
    | zero =>
      intro s k f J o4 o5 o6 o7 o8 o9 o10 hk16 hs h ho hz
      have : k = 16 := by omega
      subst this
      refine ⟨f, J, o4, o5, o6, o7, o8, o9, o10, fun _ _ => rfl, hz, ?_⟩
      rw [B301_12, if_neg (by decide), nI_1]; rfl
    | succ r ih =>
      intro s k f J o4 o5 o6 o7 o8 o9 o10 hk16 hs h ho hz
      obtain ⟨f1, J1, p4, p5, p6, p7, p8, p9, p10, a1, a2, a3⟩ := col f J o4 o5 o6 o7 o8 o9 o10 hs (show k < 16 by omega) h ho hz
      have h1 : mQ m I J1 := ⟨h.1, fun q hq => by rw [a1 6 (by decide)]; exact h.2.1 q hq, h.2.2.1, rCst_eq1 h.2.2.2 (fun c c1 c6 => a1 c (by omega))⟩
      obtain ⟨f2, J2, q4, q5, q6, q7, q8, q9, q10, b1, b2, b3⟩ := ih (s := s) (k := k + 1) f1 J1 p4 p5 p6 p7 p8 p9 p10 (by omega) hs h1 (by rw [a1 0 (by decide)]; exact ho) a2
      exact ⟨f2, J2, q4, q5, q6, q7, q8, q9, q10, fun c hc => by rw [b1 c hc, a1 c hc], b2, by rw [a3]; exact b3⟩
  have slices : ∀ (r : Nat) {s : Nat} (f : Nat → Nat) (J : Nat → Nat → Int32) (o3 o4 o5 o6 o7 o8 o9 o10 : Option Value), s + r = 16 → mQ m I J → J 0 62 = nI o → rnZ m o J f (16 * s) → ∃ f' J', (∀ c, c < 44 ∨ 47 < c → J' c = J c) ∧ rnZ m o J' f' 256 ∧ J' 44 256 = nI (f' 256) ∧ jv (e + 2) 301 4 [some (.ref 0), some (.int (nI (f (16 * s)))), some (.int (nI s)), o3, o4, o5, o6, o7, o8, o9, o10] [] (shR, J, L, pR) = some (none, (shR, J', L, pR)) := by
    intro r
    induction r with
    | zero =>
      intro s f J o3 o4 o5 o6 o7 o8 o9 o10 hs h ho hz
      have : s = 16 := by omega
      subst this
      obtain ⟨z1, z2, z3⟩ := hz
      refine ⟨f, j_up J 44 256 (nI (f 256)), fun c hc => by rw [j_up_cell _ (by omega)], ⟨fun i' hi' => by rw [j_up_own, if_neg (by omega)]; exact z1 i' hi', z2, fun i' hi' => ⟨(z3 i' hi').1, (z3 i' hi').2.cg (fun j _ => by rw [j_up_cell _ (by decide), j_up_cell _ (by decide), j_up_cell _ (by decide)]; exact ⟨rfl, rfl, rfl⟩)⟩⟩, by rw [j_up_own, if_pos rfl], ?_⟩
      rw [B301_4, if_neg (by decide), if_pos (by decide)]; rfl
    | succ r ih =>
      intro s f J o3 o4 o5 o6 o7 o8 o9 o10 hs h ho hz
      rw [B301_4, if_pos (show nI s < 16 from nI_lt (b := 16) (by omega) (by decide))]
      obtain ⟨f1, J1, p4, p5, p6, p7, p8, p9, p10, a1, a2, a3⟩ := cols 16 (k := 0) f J o4 o5 o6 o7 o8 o9 o10 (by omega) (show s < 16 by omega) h ho hz
      have h1 : mQ m I J1 := ⟨h.1, fun q hq => by rw [a1 6 (by decide)]; exact h.2.1 q hq, h.2.2.1, rCst_eq1 h.2.2.2 (fun c c1 c6 => a1 c (by omega))⟩
      obtain ⟨f2, J2, b1, b2, b3, b4⟩ := ih (s := s + 1) f1 J1 (some (.int (nI 16))) p4 p5 p6 p7 p8 p9 p10 (by omega) h1 (by rw [a1 0 (by decide)]; exact ho) a2
      exact ⟨f2, J2, fun c hc => by rw [b1 c hc, a1 c hc], b2, b3, by rw [← b4, ← a3]; rfl⟩
  obtain ⟨f, J', a1, a2, a3, a4⟩ := slices 16 (s := 0) (fun _ => 0) J none none none none none none none none (by omega) h ho ⟨fun i' hi' => by omega, fun i' _ => Nat.zero_le _, fun i' hi' => by omega⟩
  exact ⟨J', f, a1, a2, a3, by rw [B301_0, ← a4]; rfl⟩
theorem rnZ.C {f : Nat → Nat} (hz : rnZ m o J f 256) (h256 : J 44 256 = nI (f 256)) (h : mQ m I J) {s k : Nat} (hs : s < 16) (hk : k < 16) : rnC J f (xJ J 45) (xJ J 46) (xJ J 47) (16 * s + k) (hLo m (16 * s + k)) (hHi m (16 * s + k)) (pFo m o s k) := by
  obtain ⟨z1, z2, z3⟩ := hz
  obtain ⟨l0, l1, l2, l3⟩ := h.lo (i := 16 * s + k) (by omega)
  obtain ⟨y1, y2, y3, y4, y5⟩ := z3 (16 * s + k) (by omega)
  rw [show (16 * s + k) / 16 = s by omega, show (16 * s + k) % 16 = k by omega] at y3
  have b := z2 (16 * s + k + 1) (by omega)
  refine ⟨z1 _ (by omega), ?_, y2, by omega, fun j j1 j2 => ?_, y4, y5, l3⟩
  · by_cases q : 16 * s + k + 1 = 256
    · rw [q]; exact h256
    · exact z1 _ (by omega)
  · obtain ⟨g1, g2, g3, g4, g5, g6, g7, g8⟩ := y3 j j1 j2
    exact ⟨xJ_v J 45 j, xJ_v J 46 j, xJ_v J 47 j, g1, g2, g3, g4, g5, g6, g7, g8⟩
end SEAU
