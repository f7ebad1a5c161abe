/-! PIPES: offer() and drop() of the class -/
def oN (o : Option Nat) : Int32 := match o with | none => -1 | some w => nI w
theorem oN_none : oN none < 0 := by decide
theorem oN_some {w : Nat} (h : w < 2 ^ 31) : ¬ oN (some w) < 0 := nI_pos h
def lnk (W : Nat → Prop) (f : Nat → Nat) (h nx bf : Nat → Option Nat) (I : Nat → Nat → Int32) : Prop := (∀ k, k < 8 → I 104 k = oN (h k)) ∧ (∀ x, W x → I 105 x = oN (nx x) ∧ I 106 x = oN (bf x)) ∧ ∀ x, x < 9600 → I 103 x = nI (f x) ∧ f x ≤ 1048576
/-- W waits, f is what is left -/
def que (W : Nat → Prop) (f : Nat → Nat) (I : Nat → Nat → Int32) : Prop := ∃ t T h nx bf, rng W t T f h nx bf ∧ lnk W f h nx bf I ∧ I 96 12 = nI (cnN W 9600)
theorem que.cg {W W' : Nat → Prop} {f f' : Nat → Nat} {I : Nat → Nat → Int32} (Q : que W f I) (h1 : ∀ z, W z ↔ W' z) (h2 : ∀ z, f z = f' z) : que W' f' I := by
  have e1 : W = W' := funext fun z => propext (h1 z)
  have e2 : f = f' := funext h2
  subst e1 e2
  exact Q
def fQ (I I' : Nat → Nat → Int32) : Prop := (∀ c, c ≠ 96 → c ≠ 103 → c ≠ 104 → c ≠ 105 → c ≠ 106 → I' c = I c) ∧ ∀ g, g ≠ 12 → I' 96 g = I 96 g
theorem fQ.rfl' (I : Nat → Nat → Int32) : fQ I I := ⟨fun _ _ _ _ _ _ => rfl, fun _ _ => rfl⟩
theorem fQ.trans {I I' I'' : Nat → Nat → Int32} (h : fQ I I') (h' : fQ I' I'') : fQ I I'' := ⟨fun c a1 a2 a3 a4 a5 => (h'.1 c a1 a2 a3 a4 a5).trans (h.1 c a1 a2 a3 a4 a5), fun g hg => (h'.2 g hg).trans (h.2 g hg)⟩
section LEADD
variable {d : Nat} {L : Nat → Nat → Int64} {pa pb pu pw : Option Nat} {W : Nat → Prop} {f : Nat → Nat} {I : Nat → Nat → Int32}
theorem dr_b {x m : Nat} {o p : Option Nat} (hx : x < 9600) (h5 : I 105 x = oN o) (ho : ∀ v, o = some v → v < 9600) (h6 : I 106 x = oN p) (h12 : I 96 12 = nI (m + 1)) : ∃ I', (∀ c, c ≠ 96 → c ≠ 106 → I' c = I c) ∧ (∀ g, g ≠ 12 → I' 96 g = I 96 g) ∧ I' 96 12 = nI m ∧ (∀ y, I' 106 y = (match o with | some v => upO (I 106) v (oN p) | none => I 106) y) ∧ jv d 89 49 [some (.ref 96), some (.int (nI x))] [] (shC, I, L, pX pa pb pu pw) = some (none, (shC, I', L, pX pa pb pu pw)) := by
  have jx : j_in (nI x) 9600 = true := j_in_nI hx (by decide)
  rw [B89_49, if_pos jx, nI_clamp (n := x) (by omega), h5, h6]
  cases e : o with
  | none =>
    rw [if_pos oN_none, B89_75, h12, show nI (m + 1) - 1 = nI m from nI_pred m]
    refine ⟨_, fun c a1 a2 => j_up_cell _ a1 _ _, fun g hg => by rw [j_up_own, if_neg hg], j_up_self _ _ _ _, fun y => by rw [j_up_cell _ (by decide)], rfl⟩
  | some v =>
    have hv := ho v e
    rw [if_neg (oN_some (by omega)), if_pos jx, if_pos jx, show oN (some v) = nI v from rfl, if_pos (j_in_nI hv (by decide)), nI_clamp (n := v) (by omega), B89_75, j_up_cell I (by decide : 96 ≠ 106), h12, show nI (m + 1) - 1 = nI m from nI_pred m]
    refine ⟨_, fun c a1 a2 => by rw [j_up_cell _ a1, j_up_cell _ a2], fun g hg => by rw [j_up_own, if_neg hg, j_up_cell _ (by decide)], j_up_self _ _ _ _, fun y => ?_, rfl⟩
    rw [j_up_cell _ (by decide), j_up_own]
    rfl
theorem drop_c {x : Nat} (Q : que W f I) (hx : W x) : ∃ I', fQ I I' ∧ I' 103 = I 103 ∧ que (fun y => y ≠ x ∧ W y) f I' ∧ jv d 89 0 [some (.ref 96), some (.int (nI x))] [] (shC, I, L, pX pa pb pu pw) = some (none, (shC, I', L, pX pa pb pu pw)) := by
  obtain ⟨t, T, h, nx, bf, R, ⟨l1, l2, l3⟩, hc⟩ := Q
  have hx9 := (R.lt x hx).1
  have jx : j_in (nI x) 9600 = true := j_in_nI hx9 (by decide)
  have cn : cnN W 9600 = cnN (fun y => y ≠ x ∧ W y) 9600 + 1 := cnN_add hx9 hx (fun z => z.1 rfl) (fun y hy => ⟨fun z => ⟨hy, z⟩, fun z => z.2⟩)
  rw [cn] at hc
  have hnx : ∀ v, nx x = some v → v < 9600 := fun v hv => (R.lt v (R.nxt x v hx hv).1).1
  obtain ⟨e5, e6⟩ := l2 x hx
  obtain ⟨e3, e3'⟩ := l3 x hx9
  have P := R.pop hx
  rw [B89_0, if_pos jx, nI_clamp (n := x) (by omega), e6]
  cases e : bf x with
  | none =>
    rw [e] at P
    rw [if_pos oN_none, if_pos jx, if_neg (by decide), if_pos jx, e3, show nI (f x) - nI (f x) / 8 * 8 = nI (f x % 8) from nI_mod (by omega) (by decide), if_pos (j_in_nI (Nat.mod_lt _ (by decide)) (by decide)), nI_clamp (n := f x % 8) (by omega), e5]
    obtain ⟨I', a1, a2, a3, a4, a5⟩ := dr_b (d := d) (L := L) (pa := pa) (pb := pb) (pu := pu) (pw := pw) (I := j_up I 104 (f x % 8) (oN (nx x))) (x := x) (o := nx x) (p := bf x) (m := cnN (fun y => y ≠ x ∧ W y) 9600) hx9 (by rw [j_up_cell _ (by decide), e5]) hnx (by rw [j_up_cell _ (by decide), e6]) (by rw [j_up_cell _ (by decide), hc])
    refine ⟨I', ⟨fun c b1 b2 b3 b4 b5 => by rw [a1 c b1 b5, j_up_cell _ b3], fun g hg => by rw [a2 g hg, j_up_cell _ (by decide)]⟩, by rw [a1 103 (by decide) (by decide), j_up_cell _ (by decide)], ⟨t, T, _, _, _, P, ⟨fun k hk => ?_, fun y hy => ⟨?_, ?_⟩, fun y hy => ?_⟩, a3⟩, a5⟩
    · rw [a1 104 (by decide) (by decide), j_up_own]
      show _ = oN (upO h (f x % 8) (nx x) k)
      unfold upO
      split
      · rfl
      · exact l1 k hk
    · rw [a1 105 (by decide) (by decide), j_up_cell _ (by decide)]
      exact (l2 y hy.2).1
    · rw [a4 y, j_up_cell _ (by decide), ← e]
      cases e7 : nx x with
      | none => exact (l2 y hy.2).2
      | some v =>
        show upO (I 106) v (oN (bf x)) y = oN (upO bf v (bf x) y)
        unfold upO
        split
        · rfl
        · exact (l2 y hy.2).2
    · rw [a1 103 (by decide) (by decide), j_up_cell _ (by decide)]
      exact l3 y hy
  | some u =>
    rw [e] at P
    have hu : W u := by
      rcases R.bef x hx with ⟨z, -⟩ | ⟨u', z1, z2, -⟩
      · rw [z] at e; cases e
      · rw [z1] at e; injection e with e; subst e; exact z2
    have hu9 := (R.lt u hu).1
    rw [if_neg (oN_some (by omega)), if_pos jx, if_pos jx, show oN (some u) = nI u from rfl, if_pos (j_in_nI hu9 (by decide)), nI_clamp (n := u) (by omega), e5]
    have ux : x ≠ u := by
      intro z
      rcases R.bef x hx with ⟨z1, -⟩ | ⟨u', z1, z2, z3⟩
      · rw [z1] at e; cases e
      · rw [z1] at e; injection e with e; subst e
        have := (R.nxt u' x z2 z3).2.2.2
        rw [z] at this
        omega
    obtain ⟨I', a1, a2, a3, a4, a5⟩ := dr_b (d := d) (L := L) (pa := pa) (pb := pb) (pu := pu) (pw := pw) (I := j_up I 105 u (oN (nx x))) (x := x) (o := nx x) (p := bf x) (m := cnN (fun y => y ≠ x ∧ W y) 9600) hx9 (by rw [j_up_own, if_neg ux, e5]) hnx (by rw [j_up_cell _ (by decide), e6]) (by rw [j_up_cell _ (by decide), hc])
    refine ⟨I', ⟨fun c b1 b2 b3 b4 b5 => by rw [a1 c b1 b5, j_up_cell _ b4], fun g hg => by rw [a2 g hg, j_up_cell _ (by decide)]⟩, by rw [a1 103 (by decide) (by decide), j_up_cell _ (by decide)], ⟨t, T, _, _, _, P, ⟨fun k hk => ?_, fun y hy => ⟨?_, ?_⟩, fun y hy => ?_⟩, a3⟩, a5⟩
    · rw [a1 104 (by decide) (by decide), j_up_cell _ (by decide)]
      exact l1 k hk
    · rw [a1 105 (by decide) (by decide), j_up_own]
      show _ = oN (upO nx u (nx x) y)
      unfold upO
      split
      · rfl
      · exact (l2 y hy.2).1
    · rw [a4 y, j_up_cell _ (by decide), ← e]
      cases e7 : nx x with
      | none => exact (l2 y hy.2).2
      | some v =>
        show upO (I 106) v (oN (bf x)) y = oN (upO bf v (bf x) y)
        unfold upO
        split
        · rfl
        · exact (l2 y hy.2).2
    · rw [a1 103 (by decide) (by decide), j_up_cell _ (by decide)]
      exact l3 y hy
theorem push_c {y n : Nat} (Q : que W f I) (hy : y < 9600) (hw : ¬ W y) (hn : n ≤ 1048576) (o3 : Option Value) : ∃ I', fQ I I' ∧ que (fun z => z = y ∨ W z) (upO f y n) I' ∧ jv d 88 27 [some (.ref 96), some (.int (nI y)), some (.int (nI n)), o3] [] (shC, I, L, pX pa pb pu pw) = some (none, (shC, I', L, pX pa pb pu pw)) := by
  obtain ⟨t, T, h, nx, bf, R, ⟨l1, l2, l3⟩, hc⟩ := Q
  have jy : j_in (nI y) 9600 = true := j_in_nI hy (by decide)
  have jk : j_in (nI (n % 8)) 8 = true := j_in_nI (Nat.mod_lt _ (by decide)) (by decide)
  have cn : cnN (fun z => z = y ∨ W z) 9600 = cnN W 9600 + 1 := cnN_add hy (Or.inl rfl) hw (fun z hz => ⟨fun q => q.resolve_left hz, Or.inr⟩)
  have P := R.push (n := n) hy hw
  have ek := l1 (n % 8) (Nat.mod_lt _ (by decide))
  rw [B88_27, if_pos jy, if_neg (by decide), show nI n - nI n / 8 * 8 = nI (n % 8) from nI_mod (by omega) (by decide), if_pos jk, if_pos jy, if_pos jy, if_pos jk, nI_clamp (n := y) (by omega), nI_clamp (n := n % 8) (by omega), j_up_cell I (by decide : 104 ≠ 103), j_up_cell _ (by decide : 104 ≠ 106), j_up_cell _ (by decide : 104 ≠ 105), j_up_cell _ (by decide : 104 ≠ 103), ek]
  have lf : ∀ z, z < 9600 → nI (upO f y n z) = (if z = y then nI n else I 103 z) ∧ upO f y n z ≤ 1048576 := by
    intro z hz
    unfold upO
    split
    · exact ⟨rfl, hn⟩
    · exact ⟨(l3 z hz).1.symm, (l3 z hz).2⟩
  have lh : ∀ j, j < 8 → oN (upO h (n % 8) (some y) j) = if j = n % 8 then nI y else I 104 j := by
    intro j hj
    unfold upO
    split
    · rfl
    · exact (l1 j hj).symm
  have ln : ∀ z, z = y ∨ W z → oN (upO nx y (h (n % 8)) z) = if z = y then oN (h (n % 8)) else I 105 z := by
    intro z hz
    unfold upO
    split
    · rfl
    · exact (l2 z (hz.resolve_left (by assumption))).1.symm
  have lb : ∀ z, z = y ∨ W z → oN (upO bf y none z) = if z = y then -1 else I 106 z := by
    intro z hz
    unfold upO
    split
    · rfl
    · exact (l2 z (hz.resolve_left (by assumption))).2.symm
  cases e : h (n % 8) with
  | none =>
    rw [if_pos oN_none, B88_79, if_pos jk, nI_clamp (n := n % 8) (by omega)]
    rw [e] at P ln
    refine ⟨_, ⟨fun c b1 b2 b3 b4 b5 => by rw [j_up_cell _ b1, j_up_cell _ b3, j_up_cell _ b5, j_up_cell _ b4, j_up_cell _ b2], fun g hg => by rw [j_up_own, if_neg hg, j_up_cell _ (by decide), j_up_cell _ (by decide), j_up_cell _ (by decide), j_up_cell _ (by decide)]⟩, ⟨_, _, _, _, _, P, ⟨fun j hj => ?_, fun z hz => ⟨?_, ?_⟩, fun z hz => ⟨?_, (lf z hz).2⟩⟩, ?_⟩, rfl⟩
    · rw [lh j hj, j_up_cell _ (by decide), j_up_own, j_up_cell _ (by decide), j_up_cell _ (by decide), j_up_cell _ (by decide)]
    · rw [ln z hz, j_up_cell _ (by decide), j_up_cell _ (by decide), j_up_cell _ (by decide), j_up_own, j_up_cell _ (by decide)]
    · show _ = oN (upO bf y none z)
      rw [lb z hz, j_up_cell _ (by decide), j_up_cell _ (by decide), j_up_own, j_up_cell _ (by decide), j_up_cell _ (by decide)]
    · rw [(lf z hz).1, j_up_cell _ (by decide), j_up_cell _ (by decide), j_up_cell _ (by decide), j_up_cell _ (by decide), j_up_own]
    · rw [j_up_self, j_up_cell _ (by decide), j_up_cell _ (by decide), j_up_cell _ (by decide), j_up_cell _ (by decide), hc, cn]
      exact nI_1 _
  | some v =>
    have hv := R.hd _ v e
    have hv9 := (R.lt v hv.1).1
    rw [if_neg (oN_some (by omega)), if_pos jk, show oN (some v) = nI v from rfl, if_pos (j_in_nI hv9 (by decide)), nI_clamp (n := v) (by omega), B88_79, if_pos jk, nI_clamp (n := n % 8) (by omega)]
    rw [e] at P ln
    refine ⟨_, ⟨fun c b1 b2 b3 b4 b5 => by rw [j_up_cell _ b1, j_up_cell _ b3, j_up_cell _ b5, j_up_cell _ b5, j_up_cell _ b4, j_up_cell _ b2], fun g hg => by rw [j_up_own, if_neg hg, j_up_cell _ (by decide), j_up_cell _ (by decide), j_up_cell _ (by decide), j_up_cell _ (by decide), j_up_cell _ (by decide)]⟩, ⟨_, _, _, _, _, P, ⟨fun j hj => ?_, fun z hz => ⟨?_, ?_⟩, fun z hz => ⟨?_, (lf z hz).2⟩⟩, ?_⟩, rfl⟩
    · rw [lh j hj, j_up_cell _ (by decide), j_up_own, j_up_cell _ (by decide), j_up_cell _ (by decide), j_up_cell _ (by decide), j_up_cell _ (by decide)]
    · rw [ln z hz, j_up_cell _ (by decide), j_up_cell _ (by decide), j_up_cell _ (by decide), j_up_cell _ (by decide), j_up_own, j_up_cell _ (by decide)]
      rfl
    · show _ = oN (upO (upO bf y none) v (some y) z)
      rw [j_up_cell _ (by decide), j_up_cell _ (by decide), j_up_own]
      by_cases q : z = v
      · rw [if_pos q, q, upO_s]
        rfl
      · rw [if_neg q, upO_n _ _ q, lb z hz, j_up_own, j_up_cell _ (by decide), j_up_cell _ (by decide)]
    · rw [(lf z hz).1, j_up_cell _ (by decide), j_up_cell _ (by decide), j_up_cell _ (by decide), j_up_cell _ (by decide), j_up_cell _ (by decide), j_up_own]
    · rw [j_up_self, j_up_cell _ (by decide), j_up_cell _ (by decide), j_up_cell _ (by decide), j_up_cell _ (by decide), j_up_cell _ (by decide), hc, cn]
      exact nI_1 _
theorem offer_c {y n : Nat} (Q : que W f I) (hy : y < 9600) (hn : n < 1048576) (hW : n < f y → (W y ↔ f y < 1048576)) (o3 : Option Value) : ∃ I', fQ I I' ∧ que (fun z => W z ∨ (z = y ∧ n < f y)) (upO f y (min (f y) n)) I' ∧ jv (d + 1) 88 0 [some (.ref 96), some (.int (nI y)), some (.int (nI n)), o3] [] (shC, I, L, pX pa pb pu pw) = some (none, (shC, I', L, pX pa pb pu pw)) := by
  have jy : j_in (nI y) 9600 = true := j_in_nI hy (by decide)
  have hfy : I 103 y = nI (f y) ∧ f y ≤ 1048576 := by
    obtain ⟨t, T, h, nx, bf, R, ⟨l1, l2, l3⟩, hc⟩ := Q
    exact l3 y hy
  obtain ⟨e3, e4⟩ := hfy
  rw [B88_0, if_pos jy, nI_clamp (n := y) (by omega), e3]
  by_cases q : n < f y
  · rw [if_pos (nI_lt q (by omega)), if_pos jy]
    by_cases q2 : f y < 1048576
    · rw [if_pos (show nI (f y) < 1048576 from nI_lt (b := 1048576) q2 (by decide))]
      obtain ⟨I1, a1, a2, a3, a4⟩ := drop_c (d := d) (L := L) (pa := pa) (pb := pb) (pu := pu) (pw := pw) Q ((hW q).mpr q2)
      rw [jgo_some rfl a4]
      dsimp only [Option.toList_none, List.nil_append]
      obtain ⟨I2, b1, b2, b3⟩ := push_c (d := d + 1) (L := L) (pa := pa) (pb := pb) (pu := pu) (pw := pw) a3 hy (fun z => z.1 rfl) (Nat.le_of_lt hn) o3
      refine ⟨I2, a1.trans b1, b2.cg (fun z => ?_) (fun z => ?_), b3⟩
      · by_cases e : z = y
        · subst e; exact ⟨fun _ => Or.inl ((hW q).mpr q2), fun _ => Or.inl rfl⟩
        · exact ⟨fun w => Or.inl (w.resolve_left e).2, fun w => Or.inr ⟨e, w.resolve_right (fun v => e v.1)⟩⟩
      · rw [Nat.min_eq_right (by omega)]
    · rw [if_neg (show ¬ nI (f y) < 1048576 from nI_nlt (b := 1048576) (by omega) (by omega))]
      obtain ⟨I2, b1, b2, b3⟩ := push_c (d := d + 1) (L := L) (pa := pa) (pb := pb) (pu := pu) (pw := pw) Q hy (fun z => q2 ((hW q).mp z)) (Nat.le_of_lt hn) o3
      refine ⟨I2, b1, b2.cg (fun z => ?_) (fun z => ?_), b3⟩
      · by_cases e : z = y
        · subst e; exact ⟨fun _ => Or.inr ⟨rfl, q⟩, fun _ => Or.inl rfl⟩
        · exact ⟨fun w => Or.inl (w.resolve_left e), fun w => Or.inr (w.resolve_right (fun v => e v.1))⟩
      · rw [Nat.min_eq_right (by omega)]
  · rw [if_neg (nI_nlt (by omega) (by omega))]
    refine ⟨I, fQ.rfl' I, Q.cg (fun z => ⟨Or.inl, fun w => w.resolve_right (fun v => q v.2)⟩) (fun z => ?_), rfl⟩
    by_cases e : z = y
    · subst e; rw [upO_s, Nat.min_eq_left (by omega)]
    · rw [upO_n _ _ e]
/-- the head of a list -/
theorem que.head {k : Nat} (Q : que W f I) (hk : k < 8) : (I 104 k < 0 ∧ ∀ w, W w → f w % 8 ≠ k) ∨ ∃ w, I 104 k = nI w ∧ W w ∧ w < 9600 ∧ f w % 8 = k := by
  obtain ⟨t, T, h, nx, bf, R, ⟨l1, l2, l3⟩, hc⟩ := Q
  rw [l1 k hk]
  cases e : h k with
  | none =>
    refine Or.inl ⟨oN_none, fun w hw z => ?_⟩
    obtain ⟨v, hv⟩ := R.full _ w hw (Nat.le_refl _)
    rw [z, e] at hv
    cases hv
  | some w =>
    obtain ⟨w1, w2, w3⟩ := R.hd k w e
    exact Or.inr ⟨w, rfl, w1, (R.lt w w1).1, w2⟩
theorem que.left (Q : que W f I) : ∀ x, x < 9600 → I 103 x = nI (f x) ∧ f x ≤ 1048576 := by
  obtain ⟨t, T, h, nx, bf, R, ⟨l1, l2, l3⟩, hc⟩ := Q
  exact l3
theorem que.many (Q : que W f I) : I 96 12 = nI (cnN W 9600) := by
  obtain ⟨t, T, h, nx, bf, R, ⟨l1, l2, l3⟩, hc⟩ := Q
  exact hc
theorem que.in_ (Q : que W f I) : ∀ x, W x → x < 9600 := by
  obtain ⟨t, T, h, nx, bf, R, ⟨l1, l2, l3⟩, hc⟩ := Q
  exact fun x hx => (R.lt x hx).1
/-- nothing waits yet -/
theorem que_none {I : Nat → Nat → Int32} {f : Nat → Nat} (h1 : ∀ k, k < 8 → I 104 k = -1) (h2 : ∀ x, x < 9600 → I 103 x = nI (f x) ∧ f x ≤ 1048576) (h3 : I 96 12 = 0) : que (fun _ => False) f I := by
  refine ⟨fun _ => 0, 0, fun _ => none, fun _ => none, fun _ => none, ⟨fun _ z => z.elim, fun _ _ z => (by cases z), fun _ _ z => z.elim, fun _ z => z.elim⟩, ⟨fun k hk => h1 k hk, fun _ z => z.elim, h2⟩, ?_⟩
  rw [h3]
  have : cnN (fun _ => False) 9600 = 0 := by
    rcases Nat.eq_zero_or_pos (cnN (fun _ => False) 9600) with z | z
    · exact z
    · exfalso
      have all : ∀ n, cnN (fun _ => False) n = 0 := by
        intro n
        induction n with
        | zero => rfl
        | succ n ih => unfold cnN; rw [ih, if_neg (fun z => z)]
      rw [all] at z
      omega
  rw [this]
  rfl
end LEADD
