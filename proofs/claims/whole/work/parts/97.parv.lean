/-! RULES: tables -/
section PARV
variable {T : Nat} {K P : Nat → Nat} {W : Nat → List Nat} {U : Nat → Nat} {Q : Nat} {nm : Nat → List Nat} {kd nb : Nat → Nat} {nl nt nu s : Nat} {cw : Nat → List Nat} {rho : Nat → Nat} {lam : Nat} {pa pb pw : Option Nat}
theorem lcmp_pos (x y : Int64) : 0 < lg_cmp x y ↔ y.toInt < x.toInt := by
  unfold lg_cmp
  by_cases h1 : x > y
  · rw [if_pos h1]
    exact ⟨fun _ => Int64.lt_iff_toInt_lt.mp h1, fun _ => by decide⟩
  · rw [if_neg h1]
    have h2 : ¬ y.toInt < x.toInt := fun z => h1 (Int64.lt_iff_toInt_lt.mpr z)
    by_cases h3 : x = y
    · rw [if_pos h3]; exact ⟨fun z => absurd z (by decide), fun z => absurd z h2⟩
    · rw [if_neg h3]; exact ⟨fun z => absurd z (by decide), fun z => absurd z h2⟩
theorem ptE.lt {x x' : Int32} {y y' : Int64} (h : ptE x y) (h' : ptE x' y') : x < x' ↔ y.toInt < y'.toInt := by
  obtain ⟨z, _, _, e1, e2⟩ := h
  obtain ⟨z', _, _, e3, e4⟩ := h'
  rw [Int32.lt_iff_toInt_lt, e1, e2, e3, e4]
theorem ptE.pos {u : Nat} (h : u < 1000000000) : ptE (nI u) (lgN u) := ⟨u, by omega, by omega, nI_toInt (by omega), lgN_toInt (by omega)⟩
theorem ptE.neg {u : Nat} (h : u < 1000000000) : ptE (-nI u) (-lgN u) := by
  refine ⟨-(u : Int), by omega, by omega, ?_, ?_⟩
  · rw [Int32.toInt_neg, nI_toInt (by omega)]
    exact Int.bmod_eq_of_le (by omega) (by omega)
  · rw [Int64.toInt_neg, lgN_toInt (by omega)]
    exact Int.bmod_eq_of_le (by omega) (by omega)
/-- a table under way: what is as it was -/
def tbF (g nt np : Nat) (I I1 : Nat → Nat → Int32) (J J1 : Nat → Nat → Int32) (L' L1' : Nat → Nat → Int64) : Prop :=
  (∀ c, c ≠ 27 → c < g ∨ (g < c ∧ c < g + 8) ∨ g + 10 < c → I1 c = I c) ∧ (∀ i, i < 12 * nt → I1 (g + 8) i = I (g + 8) i ∧ I1 (g + 9) i = I (g + 9) i) ∧ (∀ i, i < nt → I1 (g + 10) i = I (g + 10) i) ∧ (∀ q, q ≠ 0 → q ≠ 1 → q ≠ 7 → I1 27 q = I 27 q) ∧ I1 g = I g ∧ (∀ c, c ≠ 0 → c ≠ 29 → c ≠ 30 → J1 c = J c) ∧ (∀ i, i < nt → J1 29 i = J 29 i ∧ J1 30 i = J 30 i) ∧ (∀ q, q ≠ 28 → q ≠ 29 → q ≠ 30 → q ≠ 45 → J1 0 q = J 0 q) ∧ (∀ c, c ≠ 31 → c ≠ 32 → L1' c = L' c) ∧ (∀ i, i < np → L1' 31 i = L' 31 i ∧ L1' 32 i = L' 32 i)
theorem tbF.fr {g np : Nat} (hg : g = 38 ∨ g = 49) {I J I1 J1 : Nat → Nat → Int32} {L L' L1' : Nat → Nat → Int64} (f : tbF g nt np I I1 J J1 L' L1') : sFr g I I1 L L J J1 L' L1' :=
  ⟨fun c h1 h2 => f.1 c (by omega) (by omega), f.1 28 (by decide) (by omega), f.1 29 (by decide) (by omega), fun q h1 h2 h3 h4 h5 => f.2.2.2.1 q h1 h2 h3, fun q h => by rw [f.2.2.2.2.1], fun _ _ _ => rfl, fun c h1 h2 => f.2.2.2.2.2.1 c h1 (by omega) (by omega), fun q h => f.2.2.2.2.2.2.2.1 q (by omega) (by omega) (by omega) (by omega), fun c h => f.2.2.2.2.2.2.2.2.1 c (by omega) (by omega)⟩
/-- right so far, at the token now1 -/
def tbX (g T nt np : Nat) (I J : Nat → Nat → Int32) (L' : Nat → Nat → Int64) (now1 : Nat) (I1 J1 : Nat → Nat → Int32) (L1' : Nat → Nat → Int64) : Prop :=
  tbF g nt np I I1 J J1 L' L1' ∧ now1 ≤ T ∧ I1 27 0 = 0 ∧ I1 27 7 = nI now1 ∧ J1 0 29 = 0 ∧ J1 0 28 = nI now1
/-- at a fault -/
def tbB (g T : Nat) (I J : Nat → Nat → Int32) (L L' : Nat → Nat → Int64) (I1 J1 : Nat → Nat → Int32) (L1' : Nat → Nat → Int64) : Prop := sFr g I I1 L L J J1 L' L1' ∧ sB I1 J1 ∧ ∃ m, m ≤ T ∧ J1 0 28 = nI m ∧ J1 0 46 = J 0 46
theorem tbX.tk {g np now1 : Nat} (hg : g = 38 ∨ g = 49) {I J I1 J1 : Nat → Nat → Int32} {L L' L1' : Nat → Nat → Int64} (h : tbX g T nt np I J L' now1 I1 J1 L1') (tk : tkS T K P W U I L J L') : tkS T K P W U I1 L J1 L1' :=
  tk.frame (h.1.2.2.2.1 6 (by decide) (by decide) (by decide)) (h.1.1 28 (by decide) (by omega)) (h.1.1 29 (by decide) (by omega)) rfl (h.1.2.2.2.2.2.1 18 (by decide) (by decide) (by decide)) (h.1.2.2.2.2.2.1 19 (by decide) (by decide) (by decide)) (h.1.2.2.2.2.2.2.2.2.1 20 (by decide) (by decide))
theorem tbF.mv {g np : Nat} (hg : g = 38 ∨ g = 49) {I J I1 J1 I2 J2 : Nat → Nat → Int32} {L' L1' : Nat → Nat → Int64} (f : tbF g nt np I I1 J J1 L' L1') (h1 : ∀ c, c ≠ 27 → I2 c = I1 c) (h2 : ∀ q, q ≠ 0 → q ≠ 1 → q ≠ 7 → I2 27 q = I1 27 q) (h3 : ∀ c, c ≠ 0 → J2 c = J1 c) (h4 : ∀ q, q ≠ 28 → q ≠ 29 → q ≠ 30 → J2 0 q = J1 0 q) : tbF g nt np I I2 J J2 L' L1' :=
  ⟨fun c a b => (h1 c a).trans (f.1 c a b), fun i a => by rw [h1 (g + 8) (by omega), h1 (g + 9) (by omega)]; exact f.2.1 i a, fun i a => by rw [h1 (g + 10) (by omega)]; exact f.2.2.1 i a, fun q a b c => (h2 q a b c).trans (f.2.2.2.1 q a b c), by rw [h1 g (by omega)]; exact f.2.2.2.2.1, fun c a b d => (h3 c a).trans (f.2.2.2.2.2.1 c a b d), fun i a => by rw [h3 29 (by decide), h3 30 (by decide)]; exact f.2.2.2.2.2.2.1 i a, fun q a b c d => (h4 q a b c).trans (f.2.2.2.2.2.2.2.1 q a b c d), f.2.2.2.2.2.2.2.2.1, f.2.2.2.2.2.2.2.2.2⟩
theorem tbX.adv {g np now1 : Nat} (hg : g = 38 ∨ g = 49) {I J I1 J1 : Nat → Nat → Int32} {L' L1' : Nat → Nat → Int64} (h : tbX g T nt np I J L' now1 I1 J1 L1') (hn : now1 < T) : tbX g T nt np I J L' (now1 + 1) (j_up I1 27 7 (nI (now1 + 1))) (j_up J1 0 28 (nI (now1 + 1))) L1' :=
  ⟨h.1.mv hg (fun c a => j_up_cell _ a _ _) (fun q a b c => by rw [j_up_own, if_neg c]) (fun c a => j_up_cell _ a _ _) (fun q a b c => by rw [j_up_own, if_neg a]), by omega, by rw [j_up_own, if_neg (by decide)]; exact h.2.2.1, by rw [j_up_own, if_pos rfl], by rw [j_up_own, if_neg (by decide)]; exact h.2.2.2.2.1, by rw [j_up_own, if_pos rfl]⟩
theorem tbX.fl {g np now1 : Nat} (hg : g = 38 ∨ g = 49) {I J I1 J1 : Nat → Nat → Int32} {L L' L1' : Nat → Nat → Int64} (h : tbX g T nt np I J L' now1 I1 J1 L1') {f p : Nat} (hf : 1 ≤ f ∧ f ≤ 6) : tbB g T I J L L' (flC I1 f p) (flR J1 f p) L1' := by
  unfold flC flR
  refine ⟨tbF.fr hg (h.1.mv hg (fun c a => by rw [j_up_cell _ a, j_up_cell _ a]) (fun q a b c => by rw [j_up_own, if_neg b, j_up_own, if_neg a]) (fun c a => by rw [j_up_cell _ a, j_up_cell _ a]) (fun q a b c => by rw [j_up_own, if_neg c, j_up_own, if_neg b])), ⟨f, p, hf.1, hf.2, ?_, ?_, ?_, ?_⟩, now1, h.2.1, ?_, ?_⟩
  · rw [j_up_own, if_neg (by decide), j_up_own, if_pos rfl]
  · rw [j_up_own, if_pos rfl]
  · rw [j_up_own, if_neg (by decide), j_up_own, if_pos rfl]
  · rw [j_up_own, if_pos rfl]
  · rw [j_up_own, if_neg (by decide), j_up_own, if_neg (by decide)]; exact h.2.2.2.2.2
  · rw [j_up_own, if_neg (by decide), j_up_own, if_neg (by decide)]; exact h.1.2.2.2.2.2.2.2.1 46 (by decide) (by decide) (by decide) (by decide)
/-- a token that must stand here -/
theorem tbX.want {g d e np now1 : Nat} {pu : Option Nat} (hg : g = 38 ∨ g = 49) {I J I1 J1 : Nat → Nat → Int32} {L L' L1' : Nat → Nat → Int64} (tk : tkS T K P W U I L J L') (h : tbX g T nt np I J L' now1 I1 J1 L1') {k : Nat} (hk : k ∈ kdL) (hk0 : k ≠ 0) :
    (now1 < T ∧ jv (d + 1) 11 0 [some (.ref 27), some (.int (nI k))] [] (shC, I1, L, pX pa pb pu pw) = some (some (.int 1), (shC, j_up I1 27 7 (nI (now1 + 1)), L, pX pa pb pu pw)) ∧ jv (e + 1) 260 0 [some (.ref 0), some (.int (nI (kR k)))] [] (shR, J1, L1', pR) = some (some (.int 1), (shR, j_up J1 0 28 (nI (now1 + 1)), L1', pR)) ∧ tbX g T nt np I J L' (now1 + 1) (j_up I1 27 7 (nI (now1 + 1))) (j_up J1 0 28 (nI (now1 + 1))) L1' ∧ K now1 = k) ∨
    (∃ I2 J2, jv (d + 1) 11 0 [some (.ref 27), some (.int (nI k))] [] (shC, I1, L, pX pa pb pu pw) = some (some (.int 0), (shC, I2, L, pX pa pb pu pw)) ∧ jv (e + 1) 260 0 [some (.ref 0), some (.int (nI (kR k)))] [] (shR, J1, L1', pR) = some (some (.int 0), (shR, J2, L1', pR)) ∧ tbB g T I J L L' I2 J2 L1' ∧ K now1 ≠ k) := by
  have tk1 := h.tk hg tk
  have hlt := kR_lt k hk
  obtain ⟨_, a1, a2, a3, a4, a5⟩ := id h
  by_cases q : K now1 = k
  · have lt : now1 < T := tk1.lt a1 q hk0
    exact Or.inl ⟨lt, expect_c1 tk1 a1 a2 a3 hlt.1 q, want_r1 tk1 a1 a4 a5 hk q, h.adv hg lt, q⟩
  · exact Or.inr ⟨_, _, expect_c0 tk1 a1 a2 a3 hlt.1 q, want_r0 tk1 a1 a4 a5 hk q, h.fl hg (by decide), q⟩
/-- a number with its sign -/
theorem sgn_cf {d : Nat} {I : Nat → Nat → Int32} {L : Nat → Nat → Int64} {pu : Option Nat} (h0 : I 27 0 ≠ 0) : jv (d + 2) 17 0 [some (.ref 27), none, none] [] (shC, I, L, pX pa pb pu pw) = some (some (.int 0), (shC, I, L, pX pa pb pu pw)) := by
  rw [B17_0, jgo_some (d := d + 1) rfl (now_cf h0 _)]
  dsimp only [Option.toList_some, Option.toList_none, List.cons_append, List.nil_append]
  rw [B17_6, if_pos rfl, B17_21, Int32_add0, j_up_id, jgo_some (d := d + 1) rfl (now_cf h0 _)]
  dsimp only [Option.toList_some, Option.toList_none, List.cons_append, List.nil_append]
  rw [B17_31, if_pos rfl, B17_48, jgo_some (d := d + 1) rfl (expect_cf h0 _)]
  dsimp only [Option.toList_some, Option.toList_none, List.cons_append, List.nil_append]
  rw [B17_55, if_pos rfl, B17_66]
theorem sgn_rf {e m : Nat} {J : Nat → Nat → Int32} {L' : Nat → Nat → Int64} (h0 : J 0 29 ≠ 0) (h28 : J 0 28 = nI m) (hm : m ≤ 1200) : jv (e + 1) 265 0 [some (.ref 0), none, none, none] [] (shR, J, L', pR) = some (some (.long 0), (shR, J, L', pR)) := by
  rw [B265_0, if_neg h0, B265_20, B265_21, if_pos rfl, B265_36, Int32_add0, j_up_id, h28, if_pos (j_in_nI (by omega) (by decide)), jgo_some (d := e) rfl (want_rf h0 _)]
  dsimp only [Option.toList_some, Option.toList_none, List.cons_append, List.nil_append]
  rw [B265_55, if_pos rfl]
theorem tbX.sgn {g d e np now1 : Nat} {pu : Option Nat} (hg : g = 38 ∨ g = 49) {I J I1 J1 : Nat → Nat → Int32} {L L' L1' : Nat → Nat → Int64} (tk : tkS T K P W U I L J L') (h : tbX g T nt np I J L' now1 I1 J1 L1') :
    (∃ x y now2 I2 J2, now1 < now2 ∧ ptE x y ∧ jv (d + 2) 17 0 [some (.ref 27), none, none] [] (shC, I1, L, pX pa pb pu pw) = some (some (.int x), (shC, I2, L, pX pa pb pu pw)) ∧ jv (e + 2) 265 0 [some (.ref 0), none, none, none] [] (shR, J1, L1', pR) = some (some (.long y), (shR, J2, L1', pR)) ∧ tbX g T nt np I J L' now2 I2 J2 L1' ∧ (∀ c, c ≠ 27 → I2 c = I1 c) ∧ (∀ c, c ≠ 0 → J2 c = J1 c) ∧ J2 0 45 = J1 0 45) ∨
    (∃ x y I2 J2, jv (d + 2) 17 0 [some (.ref 27), none, none] [] (shC, I1, L, pX pa pb pu pw) = some (some (.int x), (shC, I2, L, pX pa pb pu pw)) ∧ jv (e + 2) 265 0 [some (.ref 0), none, none, none] [] (shR, J1, L1', pR) = some (some (.long y), (shR, J2, L1', pR)) ∧ tbB g T I J L L' I2 J2 L1') := by
  have hT := tk.1
  -- behind the sign
  have go : ∀ (sg : Int32) (now2 : Nat) (I2 J2 : Nat → Nat → Int32), now1 ≤ now2 → tbX g T nt np I J L' now2 I2 J2 L1' → (∀ c, c ≠ 27 → I2 c = I1 c) → (∀ c, c ≠ 0 → J2 c = J1 c) → J2 0 45 = J1 0 45 →
      (∃ x y now3 I3 J3, now1 < now3 ∧ ptE x y ∧ jgo jTT jMM (d + 2) 8 [.ref 27, .int 48] (shC, I2, L, pX pa pb pu pw) (fun v S => jv (d + 2) 17 31 [some (.ref 27), some (.int sg), none] (v.toList ++ []) S) = some (some (.int x), (shC, I3, L, pX pa pb pu pw)) ∧ (if j_in (J2 0 28) 1202 = true then jgo jTT jMM (e + 2) 260 [.ref 0, .int 2] (shR, J2, L1', pR) (fun v S => jv (e + 2) 265 55 [some (.ref 0), some (.int sg), some (.long (L1' 20 (J2 0 28).toNatClampNeg)), none] (v.toList ++ []) S) else none) = some (some (.long y), (shR, J3, L1', pR)) ∧ tbX g T nt np I J L' now3 I3 J3 L1' ∧ (∀ c, c ≠ 27 → I3 c = I1 c) ∧ (∀ c, c ≠ 0 → J3 c = J1 c) ∧ J3 0 45 = J1 0 45) ∨
      (∃ x y I3 J3, jgo jTT jMM (d + 2) 8 [.ref 27, .int 48] (shC, I2, L, pX pa pb pu pw) (fun v S => jv (d + 2) 17 31 [some (.ref 27), some (.int sg), none] (v.toList ++ []) S) = some (some (.int x), (shC, I3, L, pX pa pb pu pw)) ∧ (if j_in (J2 0 28) 1202 = true then jgo jTT jMM (e + 2) 260 [.ref 0, .int 2] (shR, J2, L1', pR) (fun v S => jv (e + 2) 265 55 [some (.ref 0), some (.int sg), some (.long (L1' 20 (J2 0 28).toNatClampNeg)), none] (v.toList ++ []) S) else none) = some (some (.long y), (shR, J3, L1', pR)) ∧ tbB g T I J L L' I3 J3 L1') := by
    intro sg now2 I2 J2 hn h2 e1 e2 e3
    have tk2 := h2.tk hg tk
    obtain ⟨_, a1, a2, a3, a4, a5⟩ := id h2
    rw [show (48 : Int32) = nI 48 from rfl, jgo_some (d := d + 1) rfl (now_c tk2 a1 a2 a3 (k := 48) (by decide)), a5, if_pos (j_in_nI (by omega) (by decide)), nI_clamp (by omega)]
    dsimp only [Option.toList_some, Option.toList_none, List.cons_append, List.nil_append]
    rcases tbX.want (d := d) (e := e) (pa := pa) (pb := pb) (pu := pu) (pw := pw) hg tk h2 (k := 48) (by decide) (by decide) with ⟨lt, ec, er, h3, q⟩ | ⟨I3, J3, ec, er, h3, q⟩
    · obtain ⟨u1, u2, u3⟩ := tk2.2.2.2.2.2.2 now2 lt q
      have f1 : ∀ c, c ≠ 27 → j_up I2 27 7 (nI (now2 + 1)) c = I1 c := fun c hc => by rw [j_up_cell _ hc]; exact e1 c hc
      have f2 : ∀ c, c ≠ 0 → j_up J2 0 28 (nI (now2 + 1)) c = J1 c := fun c hc => by rw [j_up_cell _ hc]; exact e2 c hc
      have f3 : j_up J2 0 28 (nI (now2 + 1)) 0 45 = J1 0 45 := by rw [j_up_own, if_neg (by decide)]; exact e3
      have cl : jv (d + 2) 17 31 [some (.ref 27), some (.int sg), none] [.int (if K now2 = 48 then 1 else 0)] (shC, I2, L, pX pa pb pu pw) = jv (d + 2) 17 55 [some (.ref 27), some (.int sg), some (.int (nI (U now2)))] [.int 1] (shC, j_up I2 27 7 (nI (now2 + 1)), L, pX pa pb pu pw) := by
        rw [if_pos q, B17_31, if_neg (by decide), a3, if_pos (j_in_nI (by omega) (by decide)), nI_clamp (by omega), u2, lgN_i (by omega), B17_48, show (48 : Int32) = nI 48 from rfl, jgo_some (d := d + 1) rfl ec]
        rfl
      rw [cl, show (2 : Int32) = nI (kR 48) from rfl, jgo_some (d := e + 1) rfl er]
      dsimp only [Option.toList_some, Option.toList_none, List.cons_append, List.nil_append]
      rw [B17_55, B265_55, if_neg (show ¬ (1 : Int32) = 0 by decide), u3]
      by_cases q2 : sg = 0
      · refine Or.inl ⟨nI (U now2), lgN (U now2), now2 + 1, _, _, by omega, ptE.pos u1, ?_, ?_, h3, f1, f2, f3⟩
        · rw [if_pos q2, B17_66]
        · rw [if_pos q2, B265_70]
      · refine Or.inl ⟨-nI (U now2), -lgN (U now2), now2 + 1, _, _, by omega, ptE.neg u1, ?_, ?_, h3, f1, f2, f3⟩
        · rw [if_neg q2, B17_66]
        · rw [if_neg q2, B265_70]
    · rw [if_neg q, B17_31, if_pos rfl, B17_48, show (48 : Int32) = nI 48 from rfl, jgo_some (d := d + 1) rfl ec, show (2 : Int32) = nI (kR 48) from rfl, jgo_some (d := e + 1) rfl er]
      dsimp only [Option.toList_some, Option.toList_none, List.cons_append, List.nil_append]
      rw [B17_55, B265_55, if_pos (show (0 : Int32) = 0 from rfl)]
      by_cases q2 : sg = 0
      · refine Or.inr ⟨0, 0, _, _, ?_, rfl, h3⟩
        rw [if_pos q2, B17_66]
      · refine Or.inr ⟨-0, 0, _, _, ?_, rfl, h3⟩
        rw [if_neg q2, B17_66]
  obtain ⟨_, a1, a2, a3, a4, a5⟩ := id h
  have tk1 := h.tk hg tk
  have i45 := is_r (e := e + 1) tk1 a1 a5 (k := 45) (by decide)
  rw [show nI (kR 45) = (45 : Int32) from rfl] at i45
  rw [B265_0, if_pos a4, jgo_some (d := e + 1) rfl i45, B17_0, show (45 : Int32) = nI 45 from rfl, jgo_some (d := d + 1) rfl (now_c tk1 a1 a2 a3 (k := 45) (by decide))]
  dsimp only [Option.toList_some, Option.toList_none, List.cons_append, List.nil_append]
  rw [B17_6, B265_13]
  by_cases q : K now1 = 45
  · have lt : now1 < T := tk1.lt a1 q (by decide)
    rw [if_pos q, if_neg (by decide), if_neg (by decide), B17_21, B265_21, if_neg (by decide), B265_36, a3, a5, show nI now1 + 1 = nI (now1 + 1) from nI_add now1 1]
    exact go 1 (now1 + 1) _ _ (by omega) (h.adv hg lt) (fun c hc => j_up_cell _ hc _ _) (fun c hc => j_up_cell _ hc _ _) (by rw [j_up_own, if_neg (by decide)])
  · rw [if_neg q, if_pos rfl, if_pos rfl, B265_20, B17_21, B265_21, if_pos rfl, B265_36, Int32_add0, j_up_id, Int32_add0, j_up_id]
    exact go 0 now1 _ _ (Nat.le_refl _) h (fun _ _ => rfl) (fun _ _ => rfl) rfl
end PARV
