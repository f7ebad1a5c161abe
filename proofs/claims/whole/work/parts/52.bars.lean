/-! RODS FROM BARS: the two searches go side by side -/
theorem j_up_own {α : Type} (f : Nat → Nat → α) (a k : Nat) (v : α) (j : Nat) : j_up f a k v a j = if j = k then v else f a j := by rw [j_up_app, if_pos rfl]
theorem j_up_cell {α : Type} (f : Nat → Nat → α) {a b : Nat} (h : b ≠ a) (k : Nat) (v : α) : j_up f a k v b = f b := by
  unfold j_up
  rw [va_up_ne _ _ h]
def bIn (B begun : Nat) (u : Nat → Nat) (I J : Nat → Nat → Int32) : Prop := (∀ b, b < begun → 0 < u b ∧ u b ≤ B ∧ I 109 b = nI (B - u b)) ∧ (∀ b, b < 9 → J 61 b = nI (u b)) ∧ (∀ b, begun ≤ b → b < 9 → u b = 0)
def bPost (len : Nat → Nat) (k begun : Nat) (I J I' J' : Nat → Nat → Int32) (r : Int32) : Prop := (∀ c, c ≠ 108 → c ≠ 109 → I' c = I c) ∧ (∀ c, c ≠ 60 → c ≠ 61 → J' c = J c) ∧ (∀ j, j < k → I' 108 j = I 108 j ∧ J' 60 j = J 60 j) ∧ (r = 0 → (∀ b, b < begun → I' 109 b = I 109 b) ∧ ∀ b, J' 61 b = J 61 b) ∧ (r = 1 → ∀ j, k ≤ j → j < 9 → 0 < len j → I' 108 j = J' 60 j) ∧ (r = 0 ∨ r = 1)
def bMod (B C : Nat) (len : Nat → Nat) (I J : Nat → Nat → Int32) : Prop := B ≤ 4000 ∧ C ≤ 50 ∧ (∀ k, k < 9 → len k ≤ B ∧ I 2 (879 + k) = nI (len k) ∧ J 6 (879 + k) = nI (len k)) ∧ I 2 2 = nI B ∧ J 6 2 = nI B ∧ I 2 3 = nI C ∧ J 6 3 = nI C ∧ rCst J
theorem rCst_eq {J J' : Nat → Nat → Int32} (h : rCst J) (e : ∀ c, c < 6 → J' c = J c) : rCst J' := by
  obtain ⟨h1, h2, h3, h4, h5⟩ := h
  exact ⟨fun t ht => by rw [e 1 (by decide)]; exact h1 t ht, fun t ht => by rw [e 2 (by decide)]; exact h2 t ht, fun t ht => by rw [e 3 (by decide)]; exact h3 t ht, fun t ht => by rw [e 4 (by decide)]; exact h4 t ht, fun t ht => by rw [e 5 (by decide)]; exact h5 t ht⟩
theorem bMod.eq {B C : Nat} {len : Nat → Nat} {I J I' J' : Nat → Nat → Int32} (h : bMod B C len I J) (hI : I' 2 = I 2) (hJ : ∀ c, c < 7 → J' c = J c) : bMod B C len I' J' := by
  obtain ⟨h1, h2, h3, h4, h5, h6, h7, h8⟩ := h
  refine ⟨h1, h2, fun k hk => ?_, ?_, ?_, ?_, ?_, rCst_eq h8 (fun c hc => hJ c (by omega))⟩
  · rw [hI, hJ 6 (by decide)]; exact h3 k hk
  · rw [hI]; exact h4
  · rw [hJ 6 (by decide)]; exact h5
  · rw [hI]; exact h6
  · rw [hJ 6 (by decide)]; exact h7
theorem bPost.after {len : Nat → Nat} {k begun : Nat} {I J I1 J1 I' J' : Nat → Nat → Int32} {r : Int32} (h : bPost len k begun I1 J1 I' J' r) (h1 : ∀ c, c ≠ 108 → c ≠ 109 → I1 c = I c) (h2 : ∀ c, c ≠ 60 → c ≠ 61 → J1 c = J c) (h3 : ∀ j, j < k → I1 108 j = I 108 j ∧ J1 60 j = J 60 j) (h4 : ∀ b, b < begun → I1 109 b = I 109 b) (h5 : ∀ b, J1 61 b = J 61 b) : bPost len k begun I J I' J' r := by
  obtain ⟨a1, a2, a3, a4, a5, a6⟩ := h
  refine ⟨fun c x y => (a1 c x y).trans (h1 c x y), fun c x y => (a2 c x y).trans (h2 c x y), fun j hj => ⟨(a3 j hj).1.trans (h3 j hj).1, (a3 j hj).2.trans (h3 j hj).2⟩, fun hr => ⟨fun b hb => ((a4 hr).1 b hb).trans (h4 b hb), fun b => ((a4 hr).2 b).trans (h5 b)⟩, a5, a6⟩
def bQ (len : Nat → Nat) (k begun : Nat) (must : Prop) (L L' : Nat → Nat → Int64) (pa pb pu pw : Option Nat) (I J : Nat → Nat → Int32) : Option Value → jS → Option Value → jS → Prop := fun v S w T => ∃ r I' J', v = some (.int r) ∧ w = some (.int r) ∧ S = (shC, I', L, pX pa pb pu pw) ∧ T = (shR, J', L', pR) ∧ bPost len k begun I J I' J' r ∧ (must → r = 1)
section BARS
variable {pa pb pu pw : Option Nat} {L L' : Nat → Nat → Int64} {B C : Nat} {len : Nat → Nat} {d e : Nat}
/-- the two searches from rod k on -/
def bSim (B C : Nat) (len : Nat → Nat) (L L' : Nat → Nat → Int64) (pa pb pu pw : Option Nat) (d e k : Nat) : Prop := ∀ (begun most : Nat) (u : Nat → Nat) (I J : Nat → Nat → Int32), begun ≤ k → most ≤ 9 → bMod B C len I J → bIn B begun u I J → jW2 (jv d 132 0 [some (.ref 107), some (.ref 1), some (.int (nI k)), some (.int (nI begun)), some (.int (nI most)), none, none, none] [] (shC, I, L, pX pa pb pu pw)) (jv e 343 0 [some (.ref 0), some (.int (nI k)), some (.int (nI begun)), some (.int (nI most)), none, none, none, none] [] (shR, J, L', pR)) (bQ len k begun (9 + begun ≤ most + k) L L' pa pb pu pw I J)
/-- the bars from b on -/
def bNext (B C : Nat) (len : Nat → Nat) (L L' : Nat → Nat → Int64) (pa pb pu pw : Option Nat) (d e k begun most b : Nat) : Prop := ∀ (u : Nat → Nat) (I J : Nat → Nat → Int32) (o6 o7 : Option Value), bMod B C len I J → bIn B begun u I J → jW2 (jv d 132 50 [some (.ref 107), some (.ref 1), some (.int (nI k)), some (.int (nI begun)), some (.int (nI most)), some (.int (nI (len k))), some (.int (nI (len k + C))), some (.int (nI b))] [] (shC, I, L, pX pa pb pu pw)) (jv e 343 41 [some (.ref 0), some (.int (nI k)), some (.int (nI begun)), some (.int (nI most)), some (.int (nI (len k))), some (.int (nI b)), o6, o7] [] (shR, J, L', pR)) (bQ len k begun (b ≤ begun ∧ 9 + begun ≤ most + k) L L' pa pb pu pw I J)
theorem bar_try {k begun most b : Nat} (hk : k < 9) (hbk : begun ≤ k) (hm : most ≤ 9) (hb : b ≤ begun) (ih : bSim B C len L L' pa pb pu pw d e (k + 1)) (nx : bNext B C len L L' pa pb pu pw (d + 1) (e + 1) k begun most (b + 1)) {u : Nat → Nat} {I I1 J : Nat → Nat → Int32} {rm w : Nat} (hM : bMod B C len I J) (hIn : bIn B begun u I J) (h1 : ∀ c, c ≠ 109 → I1 c = I c) (h2 : ∀ c, c < begun → I1 109 c = I 109 c) (hr : I1 109 b = nI rm) (hrm : rm ≤ 5000) (hw0 : 0 < w) (hww : w ≤ 20000) (hc : w ≤ B ↔ len k + C ≤ rm) (hd : w ≤ B → rm - (len k + C) = B - w) (hbe : b = begun → w ≤ B) : jW2 (jv (d + 1) 132 91 [some (.ref 107), some (.ref 1), some (.int (nI k)), some (.int (nI begun)), some (.int (nI most)), some (.int (nI (len k))), some (.int (nI (len k + C))), some (.int (nI b))] [] (shC, I1, L, pX pa pb pu pw)) (jv (e + 1) 343 105 [some (.ref 0), some (.int (nI k)), some (.int (nI begun)), some (.int (nI most)), some (.int (nI (len k))), some (.int (nI b)), some (.int (nI (u b))), some (.int (nI w))] [.int (nI 2), .ref 6, .int (nI w)] (shR, J, L', pR)) (bQ len k begun (b ≤ begun ∧ 9 + begun ≤ most + k) L L' pa pb pu pw I J) := by
  obtain ⟨m1, m2, m3, m4, m5, m6, m7, m8⟩ := id hM
  obtain ⟨u1, u2, u3⟩ := id hIn
  have hl4 := (m3 k hk).1
  have jb : j_in (nI b) 9 = true := j_in_nI (by omega) (by decide)
  have jk : j_in (nI k) 9 = true := j_in_nI (by omega) (by decide)
  rw [B132_91, if_pos jb, B343_105, if_pos (show j_in (nI 2) 1189 = true from j_in_nI (by decide) (by decide)), nI_clamp (n := b) (by omega), nI_clamp (n := 2) (by decide), hr, m5]
  by_cases hwB : w ≤ B
  · have hn : len k + C ≤ rm := hc.mp hwB
    rw [if_neg (nI_nlt hn (by omega)), if_pos jb, if_pos jb, if_pos jk, if_neg (nI_nlt hwB (by omega)), if_pos jb, if_pos jk, nI_clamp (n := k) (by omega), nI_sub hn, hd hwB, nI_1 k, nI_1 b, nI_1 begun]
    have e1 : (if nI begun < nI (b + 1) then nI (b + 1) else nI begun) = nI (if b = begun then begun + 1 else begun) := by
      by_cases hbb : b = begun
      · rw [if_pos hbb, hbb, if_pos (nI_lt (by omega) (by omega))]
      · rw [if_neg hbb, if_neg (nI_nlt (by omega) (by omega))]
    have e2 : (if nI b = nI begun then jv (e + 1) 343 143 [some (.ref 0), some (.int (nI k)), some (.int (nI begun)), some (.int (nI most)), some (.int (nI (len k))), some (.int (nI b)), some (.int (nI (u b))), some (.int (nI w))] [.int (nI (begun + 1)), .int (nI (k + 1)), .ref 0] (shR, j_up (j_up J 61 b (nI w)) 60 k (nI b), L', pR) else jv (e + 1) 343 143 [some (.ref 0), some (.int (nI k)), some (.int (nI begun)), some (.int (nI most)), some (.int (nI (len k))), some (.int (nI b)), some (.int (nI (u b))), some (.int (nI w))] [.int (nI begun), .int (nI (k + 1)), .ref 0] (shR, j_up (j_up J 61 b (nI w)) 60 k (nI b), L', pR)) = jv (e + 1) 343 143 [some (.ref 0), some (.int (nI k)), some (.int (nI begun)), some (.int (nI most)), some (.int (nI (len k))), some (.int (nI b)), some (.int (nI (u b))), some (.int (nI w))] [.int (nI (if b = begun then begun + 1 else begun)), .int (nI (k + 1)), .ref 0] (shR, j_up (j_up J 61 b (nI w)) 60 k (nI b), L', pR) := by
      by_cases hbb : b = begun
      · rw [if_pos hbb, if_pos (by rw [hbb])]
      · rw [if_neg hbb, if_neg (fun q => hbb ((nI_eq (by omega) (by omega)).mp q))]
    rw [e1, e2, B343_143]
    have hbg : (if b = begun then begun + 1 else begun) = begun + 1 ∧ b = begun ∨ (if b = begun then begun + 1 else begun) = begun ∧ b < begun := by
      by_cases hbb : b = begun
      · left; exact ⟨if_pos hbb, hbb⟩
      · right; exact ⟨if_neg hbb, by omega⟩
    generalize (if b = begun then begun + 1 else begun) = bg at hbg
    generalize hI2 : j_up (j_up I1 109 b (nI (B - w))) 108 k (nI b) = I2
    generalize hJ2 : j_up (j_up J 61 b (nI w)) 60 k (nI b) = J2
    have i9 : ∀ c, I2 109 c = if c = b then nI (B - w) else I1 109 c := fun c => by rw [← hI2, j_up_cell _ (by decide), j_up_own]
    have i8 : ∀ c, I2 108 c = if c = k then nI b else I 108 c := fun c => by rw [← hI2, j_up_own, j_up_cell _ (by decide), h1 108 (by decide)]
    have i0 : ∀ c, c ≠ 108 → c ≠ 109 → I2 c = I c := fun c x y => by rw [← hI2, j_up_cell _ x, j_up_cell _ y, h1 c y]
    have j1 : ∀ c, J2 61 c = if c = b then nI w else J 61 c := fun c => by rw [← hJ2, j_up_cell _ (by decide), j_up_own]
    have j8 : ∀ c, J2 60 c = if c = k then nI b else J 60 c := fun c => by rw [← hJ2, j_up_own, j_up_cell _ (by decide)]
    have j0 : ∀ c, c ≠ 60 → c ≠ 61 → J2 c = J c := fun c x y => by rw [← hJ2, j_up_cell _ x, j_up_cell _ y]
    have hM2 : bMod B C len I2 J2 := hM.eq (i0 2 (by decide) (by decide)) (fun c hc => j0 c (by omega) (by omega))
    have hIn2 : bIn B bg (fun c => if c = b then w else u c) I2 J2 := by
      refine ⟨fun c hc => ?_, fun c hc => ?_, fun c hc hc9 => ?_⟩
      · show 0 < (if c = b then w else u c) ∧ (if c = b then w else u c) ≤ B ∧ I2 109 c = nI (B - (if c = b then w else u c))
        rw [i9]
        by_cases hcb : c = b
        · rw [if_pos hcb, if_pos hcb]; exact ⟨hw0, hwB, rfl⟩
        · have hcg : c < begun := by omega
          rw [if_neg hcb, if_neg hcb, h2 c hcg]; exact u1 c hcg
      · show J2 61 c = nI (if c = b then w else u c)
        rw [j1]
        by_cases hcb : c = b
        · rw [if_pos hcb, if_pos hcb]
        · rw [if_neg hcb, if_neg hcb]; exact u2 c hc
      · show (if c = b then w else u c) = 0
        rw [if_neg (by omega)]; exact u3 c (by omega) hc9
    refine jW2_go rfl rfl (ih bg most _ I2 J2 (by omega) hm hM2 hIn2) ?_
    rintro v S w' T ⟨r, I', J', rfl, rfl, rfl, rfl, ⟨p1, p2, p3, p4, p5, p6⟩, pm⟩
    dsimp only [Option.toList_some, List.cons_append, List.nil_append]
    rw [B132_141, B343_147]
    rcases p6 with rfl | rfl
    · obtain ⟨p4a, p4b⟩ := p4 rfl
      have hx : I' 109 b = nI (B - w) := by rw [p4a b (by omega), i9, if_pos rfl]
      rw [if_pos rfl, if_pos jb, if_pos jb, if_pos rfl, if_pos jb, nI_clamp (n := b) (by omega), hx, nI_add, show B - w + (len k + C) = rm by have := hd hwB; omega, B132_158, B343_161, nI_1 b]
      generalize hI3 : j_up I' 109 b (nI rm) = I3
      generalize hJ3 : j_up J' 61 b (nI (u b)) = J3
      have a9 : ∀ c, c < begun → I3 109 c = I 109 c := fun c hcg => by
        rw [← hI3, j_up_own]
        by_cases hcb : c = b
        · rw [if_pos hcb, ← h2 c hcg, hcb, hr]
        · rw [if_neg hcb, p4a c (by omega), i9, if_neg hcb, h2 c hcg]
      have b1 : ∀ c, J3 61 c = J 61 c := fun c => by
        rw [← hJ3, j_up_own]
        by_cases hcb : c = b
        · rw [if_pos hcb, hcb, u2 b (by omega)]
        · rw [if_neg hcb, p4b c, j1, if_neg hcb]
      have a0 : ∀ c, c ≠ 108 → c ≠ 109 → I3 c = I c := fun c x y => by rw [← hI3, j_up_cell _ y, p1 c x y, i0 c x y]
      have b0 : ∀ c, c ≠ 60 → c ≠ 61 → J3 c = J c := fun c x y => by rw [← hJ3, j_up_cell _ y, p2 c x y, j0 c x y]
      have a8 : ∀ j, j < k → I3 108 j = I 108 j ∧ J3 60 j = J 60 j := fun j hj => by
        rw [← hI3, ← hJ3, j_up_cell _ (by decide), j_up_cell _ (by decide), (p3 j (by omega)).1, (p3 j (by omega)).2, i8, j8, if_neg (by omega), if_neg (by omega)]
        exact ⟨rfl, rfl⟩
      refine jW2_mono (nx u I3 J3 _ _ (hM.eq (a0 2 (by decide) (by decide)) (fun c hc => b0 c (by omega) (by omega))) ⟨fun c hcg => by rw [a9 c hcg]; exact u1 c hcg, fun c hc9 => by rw [b1 c]; exact u2 c hc9, u3⟩) ?_
      rintro v S w' T ⟨r, I'', J'', rfl, rfl, rfl, rfl, hp, hq⟩
      exact ⟨r, I'', J'', rfl, rfl, rfl, rfl, hp.after a0 b0 a8 a9 b1, fun hmu => absurd (pm (by omega)) (by decide)⟩
    · rw [if_neg (by decide), if_pos nb1, if_neg (by decide), if_pos nb1]
      refine jW2_some ⟨1, I', J', rfl, rfl, rfl, rfl, ⟨fun c x y => by rw [p1 c x y, i0 c x y], fun c x y => by rw [p2 c x y, j0 c x y], fun j hj => ?_, fun q => absurd q (by decide), fun _ j hj hj9 hlj => ?_, Or.inr rfl⟩, fun _ => rfl⟩
      · rw [(p3 j (by omega)).1, (p3 j (by omega)).2, i8, j8, if_neg (by omega), if_neg (by omega)]
        exact ⟨rfl, rfl⟩
      · by_cases hjk : j = k
        · rw [(p3 j (by omega)).1, (p3 j (by omega)).2, i8, j8, if_pos hjk, if_pos hjk]
        · exact p5 rfl j (by omega) hj9 hlj
  · have hn : rm < len k + C := Nat.lt_of_not_le (fun q => hwB (hc.mpr q))
    rw [if_pos (nI_lt hn (by omega)), if_pos (nI_lt (by omega) (by omega)), B132_158, B343_161, nI_1 b]
    refine jW2_mono (nx u I1 J _ _ (hM.eq (h1 2 (by decide)) (fun _ _ => rfl)) ⟨fun c hcg => by rw [h2 c hcg]; exact u1 c hcg, u2, u3⟩) ?_
    rintro v S w' T ⟨r, I'', J'', rfl, rfl, rfl, rfl, hp, hq⟩
    exact ⟨r, I'', J'', rfl, rfl, rfl, rfl, hp.after (fun c _ y => h1 c y) (fun _ _ _ => rfl) (fun j _ => ⟨by rw [h1 108 (by decide)], rfl⟩) h2 (fun _ => rfl), fun hmu => hq ⟨by rcases Nat.lt_or_ge b begun with z | z; exact z; exact absurd (hbe (by omega)) hwB, hmu.2⟩⟩
theorem bar_end {k begun : Nat} {I J : Nat → Nat → Int32} : bPost len k begun I J I J 0 := ⟨fun _ _ _ => rfl, fun _ _ _ => rfl, fun _ _ => ⟨rfl, rfl⟩, fun _ => ⟨fun _ _ => rfl, fun _ => rfl⟩, fun q => absurd q (by decide), Or.inl rfl⟩
theorem bar_loop {k begun most : Nat} (hk : k < 9) (hlk : 0 < len k) (hbk : begun ≤ k) (hm : most ≤ 9) (ih : bSim B C len L L' pa pb pu pw d e (k + 1)) : ∀ m b, b + m = begun + 1 → bNext B C len L L' pa pb pu pw (d + 1) (e + 1) k begun most b := by
  intro m
  induction m with
  | zero =>
    intro b hb u I J o6 o7 hM hIn
    have hx : nI begun < nI b := nI_lt (by omega) (by omega)
    rw [B132_50, B343_41, if_pos hx, if_pos hx, B132_164, B343_167, if_pos nb0, if_pos nb0]
    exact jW2_some ⟨0, I, J, rfl, rfl, rfl, rfl, bar_end, fun hmu => absurd hmu (by omega)⟩
  | succ m ihm =>
    intro b hb u I J o6 o7 hM hIn
    obtain ⟨m1, m2, m3, m4, m5, m6, m7, m8⟩ := id hM
    obtain ⟨u1, u2, u3⟩ := id hIn
    have hl4 := (m3 k hk).1
    have jb : j_in (nI b) 9 = true := j_in_nI (by omega) (by decide)
    have hx : ¬ nI begun < nI b := nI_nlt (by omega) (by omega)
    rw [B132_50, B343_41, if_neg hx, if_neg hx]
    by_cases hbm : b < most
    · have hy : nI b < nI most := nI_lt hbm (by omega)
      rw [if_pos hy, if_pos hy, if_pos jb, nI_clamp (n := b) (by omega), u2 b (by omega)]
      by_cases hbb : b = begun
      · rw [if_pos (by rw [hbb]), g_of1_0_2]
        dsimp only [Option.toList_some, List.cons_append, List.nil_append]
        rw [B132_82, g_of1_0_3]
        dsimp only [Option.toList_some, List.cons_append, List.nil_append]
        rw [B132_89, if_pos jb, nI_clamp (n := b) (by omega), m4, m6, nI_add, if_pos (by rw [u3 b (by omega) (by omega)]; rfl), B343_90, g_at_0_2 m8]
        dsimp only [Option.toList_some, List.cons_append, List.nil_append]
        exact bar_try hk hbk hm (by omega) ih (ihm (b + 1) (by omega)) hM hIn (fun c x => by rw [j_up_cell _ x]) (fun c hcg => by rw [j_up_own, if_neg (by omega)]) (rm := B + C) (by rw [j_up_own, if_pos rfl]) (by omega) hlk (by omega) (by omega) (by omega) (fun _ => hl4)
      · obtain ⟨v1, v2, v3⟩ := u1 b (by omega)
        rw [if_neg (fun q => hbb ((nI_eq (by omega) (by omega)).mp q)), if_neg (nI_ne0 v1 (by omega)), g_at_0_3 m8]
        dsimp only [Option.toList_some, List.cons_append, List.nil_append]
        rw [B343_85, if_pos (show j_in (nI 3) 1189 = true from j_in_nI (by decide) (by decide)), nI_clamp (n := 3) (by decide), m7, nI_add, nI_add, B343_90, g_at_0_2 m8]
        dsimp only [Option.toList_some, List.cons_append, List.nil_append]
        exact bar_try hk hbk hm (by omega) ih (ihm (b + 1) (by omega)) hM hIn (fun _ _ => rfl) (fun _ _ => rfl) v3 (by omega) (by omega) (by omega) (by omega) (by omega) (fun q => absurd q hbb)
    · have hy : ¬ nI b < nI most := nI_nlt (by omega) (by omega)
      rw [if_neg hy, if_neg hy, B132_164, B343_167, if_pos nb0, if_pos nb0]
      exact jW2_some ⟨0, I, J, rfl, rfl, rfl, rfl, bar_end, fun hmu => absurd hmu (by omega)⟩
theorem cut_sim : ∀ n k, k + n = 9 → bSim B C len L L' pa pb pu pw (d + n) (e + n) k := by
  intro n
  induction n with
  | zero =>
    intro k hk begun most u I J hb hm hM hIn
    obtain rfl : k = 9 := by omega
    rw [B132_0, B343_0, if_neg (by decide), if_pos nb1, if_pos (show nI 9 = (9 : Int32) from rfl), if_pos nb1]
    exact jW2_some ⟨1, I, J, rfl, rfl, rfl, rfl, ⟨fun _ _ _ => rfl, fun _ _ _ => rfl, fun _ _ => ⟨rfl, rfl⟩, fun q => absurd q (by decide), fun _ j h9 hj => absurd hj (by omega), Or.inr rfl⟩, fun _ => rfl⟩
  | succ n ih =>
    intro k hk begun most u I J hb hm hM hIn
    obtain ⟨m1, m2, m3, m4, m5, m6, m7, m8⟩ := id hM
    have hk9 : k < 9 := by omega
    have hl4 := (m3 k hk9).1
    have ih' := ih (k + 1) (by omega)
    rw [B132_0, B343_0, if_pos (show nI k < (9 : Int32) from nI_lt hk9 (by decide)), if_neg (fun q : nI k = 9 => absurd ((nI_eq (b := 9) (by omega) (by decide)).mp q) (by omega)), show d + (n + 1) = d + n + 1 from rfl, show e + (n + 1) = e + n + 1 from rfl, g_of1_11_0 hk9, g_at_11_0 m8]
    dsimp only [Option.toList_some, List.cons_append, List.nil_append]
    rw [B132_16, B343_20, if_pos (show j_in (nI (879 + k)) 1189 = true from j_in_nI (by omega) (by decide)), nI_clamp (n := 879 + k) (by omega), (m3 k hk9).2.1, (m3 k hk9).2.2]
    by_cases hl : len k = 0
    · rw [if_pos (by rw [hl]; rfl), if_pos (by rw [hl]; rfl), nI_1 k]
      refine jW2_go rfl rfl (ih' begun most u I J (by omega) hm hM hIn) ?_
      rintro v S w' T ⟨r, I', J', rfl, rfl, rfl, rfl, ⟨p1, p2, p3, p4, p5, p6⟩, pm⟩
      dsimp only [Option.toList_some, List.cons_append, List.nil_append]
      have hr : vp_nar .boolean r = r := by rcases p6 with rfl | rfl <;> decide +kernel
      rw [B132_34, B343_37, if_pos hr, if_pos hr]
      refine jW2_some ⟨r, I', J', rfl, rfl, rfl, rfl, ⟨p1, p2, fun j hj => p3 j (by omega), p4, fun q j hj hj9 hlj => ?_, p6⟩, fun hmu => pm (by omega)⟩
      by_cases hjk : j = k
      · rw [hjk] at hlj; omega
      · exact p5 q j (by omega) hj9 hlj
    · rw [if_neg (nI_ne0 (by omega) (by omega)), if_neg (nI_ne0 (by omega) (by omega)), g_of1_0_3]
      dsimp only [Option.toList_some, List.cons_append, List.nil_append]
      rw [B132_44, m6, nI_add]
      refine jW2_mono (bar_loop hk9 (by omega) hb hm ih' (begun + 1) 0 (by omega) u I J _ _ hM hIn) ?_
      rintro v S w' T ⟨r, I', J', rfl, rfl, rfl, rfl, hp, hq⟩
      exact ⟨r, I', J', rfl, rfl, rfl, rfl, hp, fun hmu => hq ⟨Nat.zero_le _, hmu⟩⟩
end BARS
