/-! SHEETS: the rests, one rest and all -/
theorem j_run2 {α β γ : Type} (A : Nat → α → β) (B : Nat → α → γ) (P : Nat → α → Prop) (n : Nat) (h : ∀ i, i < n → ∀ x, P i x → ∃ y, P (i + 1) y ∧ A i x = A (i + 1) y ∧ B i x = B (i + 1) y) : ∀ x, P 0 x → ∃ y, P n y ∧ A 0 x = A n y ∧ B 0 x = B n y := by
  intro x hx
  have key : ∀ m, m ≤ n → ∃ y, P m y ∧ A 0 x = A m y ∧ B 0 x = B m y := by
    intro m
    induction m with
    | zero => exact fun _ => ⟨x, hx, rfl, rfl⟩
    | succ m ih =>
      intro hm
      obtain ⟨y, h1, h2, h3⟩ := ih (by omega)
      obtain ⟨z, k1, k2, k3⟩ := h m (by omega) y h1
      exact ⟨z, k1, h2.trans k2, h3.trans k3⟩
  exact key n (Nat.le_refl _)
def mxN (a b : Nat) : Nat := if a < b then b else a
section SHEET6
variable {d e : Nat} {L L' : Nat → Nat → Int64} {pa pb pu pw : Option Nat} {K : Option Value → jS → jO} {w h : Nat} {o : Nat → Nat → Nat → Nat}
theorem flood {v s : Nat} (hs : s < 6) (hv : 0 < v) (hv2 : v ≤ 4000) (L L' : Nat → Nat → Int64) (pa pb pu pw : Option Nat) : ∀ (t m n : Nat) (g : Nat → Nat) (I J : Nat → Nat → Int32), m ≤ n → m + t = 3072 → shIn w h o I J → flIn w h n g I J → ∃ n' g' I' J', n ≤ n' ∧ flIn w h n' g' I' J' ∧ frC I I' ∧ frR J J' ∧ (∀ (d : Nat) (c2 : Int32) (o5 o6 : Option Value), jv (d + 2) 128 18 [some (.ref 83), some (.int (nI s)), some (.int c2), some (.int (nI n)), some (.int (nI m)), o5, o6] [] (shC, I, L, pX pa pb pu pw) = some (some (.int (nI n')), (shC, I', L, pX pa pb pu pw))) ∧ ∀ (e mx yy xx : Nat) (l2 : Int32) (o11 o12 o13 o14 : Option Value), mx ≤ 3072 → ∃ z11 z12 z13 z14 : Option Value, jv e 341 160 [some (.ref 0), some (.int (nI s)), some (.int l2), some (.int (nI w)), some (.int (nI h)), some (.int (nI v)), some (.int (nI mx)), some (.int (nI yy)), some (.int (nI xx)), some (.int (nI n)), some (.int (nI m)), o11, o12, o13, o14] [] (shR, J, L', pR) = jv e 341 364 [some (.ref 0), some (.int (nI s)), some (.int l2), some (.int (nI w)), some (.int (nI h)), some (.int (nI v)), some (.int (nI (mxN mx n'))), some (.int (nI yy)), some (.int (nI xx)), some (.int (nI n')), some (.int (nI n')), z11, z12, z13, z14] [] (shR, J', L', pR) := by
  intro t
  induction t with
  | zero =>
    intro m n g I J hmn hmt H F
    have hn := F.2.1
    have q : m = n := by omega
    subst q
    refine ⟨m, g, I, J, Nat.le_refl _, F, fun c _ _ => rfl, fun c _ _ => rfl, fun d c2 o5 o6 => ?_, fun e mx yy xx l2 o11 o12 o13 o14 hmx => ⟨o11, o12, o13, o14, ?_⟩⟩
    · rw [B128_18, if_neg (nI_nlt (Nat.le_refl _) (by omega)), B128_114]
    · rw [B341_160, if_neg (nI_nlt (Nat.le_refl _) (by omega))]
      unfold mxN
      by_cases r : mx < m
      · rw [if_pos (nI_lt r (by omega)), if_pos r, B341_362]
      · rw [if_neg (nI_nlt (by omega) (by omega)), if_neg r, B341_362]
  | succ t ih =>
    intro m n g I J hmn hmt H F
    have hn := F.2.1
    by_cases q : m = n
    · subst q
      refine ⟨m, g, I, J, Nat.le_refl _, F, fun c _ _ => rfl, fun c _ _ => rfl, fun d c2 o5 o6 => ?_, fun e mx yy xx l2 o11 o12 o13 o14 hmx => ⟨o11, o12, o13, o14, ?_⟩⟩
      · rw [B128_18, if_neg (nI_nlt (Nat.le_refl _) (by omega)), B128_114]
      · rw [B341_160, if_neg (nI_nlt (Nat.le_refl _) (by omega))]
        unfold mxN
        by_cases r : mx < m
        · rw [if_pos (nI_lt r (by omega)), if_pos r, B341_362]
        · rw [if_neg (nI_nlt (by omega) (by omega)), if_neg r, B341_362]
    · obtain ⟨n1, g1, I1, J1, a1, a2, a3, a4, a5, a6⟩ := four H F hs hv hv2 (m := m) (by omega) L L' pa pb pu pw
      obtain ⟨n2, g2, I2, J2, b1, b2, b3, b4, b5, b6⟩ := ih (m + 1) n1 g1 I1 J1 (by omega) (by omega) (H.fr a3 a4) a2
      refine ⟨n2, g2, I2, J2, by omega, b2, a3.tr b3, a4.tr b4, fun d c2 o5 o6 => ?_, fun e mx yy xx l2 o11 o12 o13 o14 hmx => ?_⟩
      · obtain ⟨z5, z6, hz⟩ := a5 d c2 o5 o6
        rw [hz]
        exact b5 d c2 z5 z6
      · obtain ⟨z11, z12, z13, z14, hz⟩ := a6 e mx yy xx l2 o11 o12 o13 o14
        rw [hz]
        exact b6 e mx yy xx l2 z11 z12 z13 z14 hmx
theorem up_turn (J : Nat → Nat → Int32) (a b : Nat) (u v : Int32) : j_up (j_up J 59 a u) 58 b v = j_up (j_up J 58 b v) 59 a u := by
  funext c j
  by_cases q : c = 58
  · subst q
    rw [j_up_own, j_up_cell J (show (58 : Nat) ≠ 59 by decide), j_up_cell (j_up J 58 b v) (show (58 : Nat) ≠ 59 by decide), j_up_own]
  · by_cases r : c = 59
    · subst r
      rw [j_up_cell (j_up J 59 a u) (show (59 : Nat) ≠ 58 by decide), j_up_own, j_up_own, j_up_cell J (show (59 : Nat) ≠ 58 by decide)]
    · rw [j_up_cell _ q, j_up_cell _ r, j_up_cell _ r, j_up_cell _ q]
def frC' (I I' : Nat → Nat → Int32) : Prop := (∀ c, c ≠ 94 → c ≠ 95 → c ≠ 83 → I' c = I c) ∧ ∀ f, f ≠ 6 → f ≠ 7 → I' 83 f = I 83 f
/-- the class's store with a rest more -/
def reC (I : Nat → Nat → Int32) (gn mx : Nat) : Nat → Nat → Int32 := j_up (j_up I 83 6 (nI gn)) 83 7 (nI mx)
theorem reC_o (I : Nat → Nat → Int32) (gn mx : Nat) {c : Nat} (hc : c ≠ 83) : reC I gn mx c = I c := by unfold reC; rw [j_up_cell _ hc, j_up_cell _ hc]
theorem reC_83 (I : Nat → Nat → Int32) (gn mx f : Nat) : reC I gn mx 83 f = if f = 7 then nI mx else if f = 6 then nI gn else I 83 f := by unfold reC; rw [j_up_own, j_up_own]
theorem reC_fr {I I1 : Nat → Nat → Int32} (f : frC I I1) (gn mx : Nat) : frC' I (reC I1 gn mx) := ⟨fun c a b q => by rw [reC_o _ _ _ q, f c a b], fun k a b => by rw [reC_83, if_neg b, if_neg a, f 83 (by decide) (by decide)]⟩
theorem frC'.tr {I I' I'' : Nat → Nat → Int32} (a : frC' I I') (b : frC' I' I'') : frC' I I'' := ⟨fun c x y z => (b.1 c x y z).trans (a.1 c x y z), fun f x y => (b.2 f x y).trans (a.2 f x y)⟩
theorem shIn.fr' {I J I' J' : Nat → Nat → Int32} (H : shIn w h o I J) (f1 : frC' I I') (f2 : frR J J') : shIn w h o I' J' := H.eq (f1.2 3 (by decide) (by decide)) (f1.2 4 (by decide) (by decide)) (f1.1 90 (by decide) (by decide) (by decide)) (f2 6 (by decide) (by decide)) (f2 53 (by decide) (by decide))
theorem flIn.re {n : Nat} {g : Nat → Nat} {I J : Nat → Nat → Int32} (F : flIn w h n g I J) (gn mx : Nat) : flIn w h 0 g (reC I gn mx) J := ⟨Nat.zero_le _, Nat.zero_le _, fun i hi => by rw [reC_o _ _ _ (by decide)]; exact F.2.2.1 i hi, fun j hj => absurd hj (Nat.not_lt_zero _)⟩
def rsIn (w h : Nat) (o : Nat → Nat → Nat → Nat) (gn mx : Nat) (g : Nat → Nat) (I J : Nat → Nat → Int32) : Prop := mx ≤ 3072 ∧ shIn w h o I J ∧ flIn w h 0 g I J ∧ I 83 6 = nI gn ∧ I 83 7 = nI mx
theorem rs_re {gn mx n : Nat} {g : Nat → Nat} {I J I1 J1 : Nat → Nat → Int32} (hmx : mx ≤ 3072) (H : shIn w h o I J) (F : flIn w h n g I1 J1) (f1 : frC I I1) (f2 : frR J J1) : rsIn w h o gn mx g (reC I1 gn mx) J1 := ⟨hmx, H.fr' (reC_fr f1 gn mx) f2, F.re gn mx, by rw [reC_83, if_neg (by decide), if_pos rfl], by rw [reC_83, if_pos rfl]⟩
/-- both at one cell of the walk -/
theorem rest_one {s x y gn mx : Nat} {g : Nat → Nat} {I J : Nat → Nat → Int32} (S : rsIn w h o gn mx g I J) (hs : s < 6) (hx : x < w) (hy : y < h) (hg : gn ≤ 3100) (l2 : Int32) (o4 : Option Value) (q : Nat → Option Value) : ∃ (gn' mx' : Nat) (g' : Nat → Nat) (I' J' : Nat → Nat → Int32) (o4' : Option Value) (q' : Nat → Option Value), gn' ≤ gn + 1 ∧ rsIn w h o gn' mx' g' I' J' ∧ frC' I I' ∧ frR J J' ∧ jv (d + 3) 127 30 [some (.ref 83), some (.int (nI s)), some (.int (nI y)), some (.int (nI x)), o4] [] (shC, I, L, pX pa pb pu pw) = jv (d + 3) 127 30 [some (.ref 83), some (.int (nI s)), some (.int (nI y)), some (.int (nI (x + 1))), o4'] [] (shC, I', L, pX pa pb pu pw) ∧ jv e 341 71 [some (.ref 0), some (.int (nI s)), some (.int l2), some (.int (nI w)), some (.int (nI h)), some (.int (nI gn)), some (.int (nI mx)), some (.int (nI y)), some (.int (nI x)), q 0, q 1, q 2, q 3, q 4, q 5] [] (shR, J, L', pR) = jv e 341 71 [some (.ref 0), some (.int (nI s)), some (.int l2), some (.int (nI w)), some (.int (nI h)), some (.int (nI gn')), some (.int (nI mx')), some (.int (nI y)), some (.int (nI (x + 1))), q' 0, q' 1, q' 2, q' 3, q' 4, q' 5] [] (shR, J', L', pR) := by
  obtain ⟨hmx, H, F, e6, e7⟩ := id S
  obtain ⟨h1, h2, h3, h4, h5, h6, h7, h8, h9, ha, hb⟩ := id H
  have hp : 64 * y + x < 3072 := by omega
  have ed : nI (64 * y + x) / 64 = nI y := by
    rw [show nI (64 * y + x) / 64 = nI ((64 * y + x) / 64) from nI_div (b := 64) (by omega) (by decide), show (64 * y + x) / 64 = y by omega]
  have em : nI (64 * y + x) - nI y * 64 = nI x := by
    rw [show nI y * 64 = nI (y * 64) from nI_mul y 64, nI_sub (by omega), show 64 * y + x - y * 64 = x by omega]
  have e1 : 3072 * nI s + 64 * nI y + nI x = nI (3072 * s + 64 * y + x) := by
    rw [show 3072 * nI s = nI (3072 * s) from nI_mul 3072 s, show 64 * nI y = nI (64 * y) from nI_mul 64 y, nI_add, nI_add]
  have F0 := F.2.2.1 _ hp
  by_cases hc : o s x y = 0 ∧ g (64 * y + x) = 0
  · obtain ⟨ho, hg0⟩ := hc
    have hF := (ps_fl F h1 h2 hx hy hg0 (v := gn + 1) (by omega) (by omega)).2
    have fa := psC_fr I (64 * y + x) 0
    have fb := psR_fr J (64 * y + x) 0 (gn + 1)
    obtain ⟨n', g', I', J', a1, a2, a3, a4, a5, a6⟩ := flood hs (v := gn + 1) (by omega) (by omega) L L' pa pb pu pw 3072 0 1 _ _ _ (by omega) (by omega) (H.fr fa fb) hF
    obtain ⟨z11, z12, z13, z14, hz⟩ := a6 e mx y x l2 (q 2) (q 3) (q 4) (q 5) hmx
    have hn' := a2.2.1
    refine ⟨gn + 1, mxN mx n', g', reC I' (gn + 1) (mxN mx n'), J', some (.int (nI n')), fun i => if i = 0 then some (.int (nI n')) else if i = 1 then some (.int (nI n')) else if i = 2 then z11 else if i = 3 then z12 else if i = 4 then z13 else z14, Nat.le_refl _, rs_re (by unfold mxN; split <;> omega) H a2 (fa.tr a3) (fb.tr a4), reC_fr (fa.tr a3) _ _, fb.tr a4, ?_, ?_⟩
    · have k1 : jv (d + 2) 128 0 [some (.ref 83), some (.int (nI s)), some (.int (nI (64 * y + x))), none, none, none, none] [] (shC, I, L, pX pa pb pu pw) = some (some (.int (nI n')), (shC, I', L, pX pa pb pu pw)) := by
        rw [B128_0, if_neg (by decide), if_neg (by decide), ed, em, jgo_some (d := d + 1) rfl (push_in H F hs hx hy ho hg0 (v := gn + 1) (by omega) (by omega))]
        dsimp only [Option.toList_some, List.cons_append, List.nil_append]
        rw [B128_14]
        exact a5 d _ _ _
      have i6 : I' 83 6 = nI gn := by rw [a3 83 (by decide) (by decide), fa 83 (by decide) (by decide), e6]
      have i7 : I' 83 7 = nI mx := by rw [a3 83 (by decide) (by decide), fa 83 (by decide) (by decide), e7]
      rw [B127_30, h3, if_pos (nI_lt hx (by omega)), xy_nI, jgo_some (d := d + 2) rfl k1]
      dsimp only [Option.toList_some, List.cons_append, List.nil_append]
      rw [B127_49, if_pos (show (0 : Int32) < nI n' from nI_lt (a := 0) (by omega) (by omega)), B127_66, i6, nI_1 gn, nI_1 x, j_up_own, if_neg (show ¬ (7 : Nat) = 6 by decide), i7, q_max mx n' (by omega) (by omega)]
      rfl
    · rw [B341_71, if_pos (nI_lt hx (by omega)), e1, if_pos (j_in_nI (by omega) (by decide)), nI_clamp (n := 3072 * s + 64 * y + x) (by omega), h9 s hs x y (by omega) (by omega), ho, if_neg (by decide), yx_nI, if_pos (j_in_nI hp (by decide)), nI_clamp (n := 64 * y + x) (by omega), F0.2.1, hg0, if_neg (by decide), if_pos (by decide), if_pos (j_in_nI hp (by decide)), nI_1 gn, i_add01, up_turn]
      refine hz.trans ?_
      rw [B341_364, nI_1 x]
      rfl
  · refine ⟨gn, mx, g, reC I gn mx, J, some (.int 0), q, by omega, rs_re hmx H F (fun c _ _ => rfl) (fun c _ _ => rfl), reC_fr (fun c _ _ => rfl) _ _, fun c _ _ => rfl, ?_, ?_⟩
    · have k1 : jv (d + 2) 128 0 [some (.ref 83), some (.int (nI s)), some (.int (nI (64 * y + x))), none, none, none, none] [] (shC, I, L, pX pa pb pu pw) = some (some (.int (nI 0)), (shC, I, L, pX pa pb pu pw)) := by
        rw [B128_0, if_neg (by decide), if_neg (by decide), ed, em, jgo_some (d := d + 1) rfl (push_no (n := 0) H F hs (fun x' y' a1 a2 a3 a4 a5 a6 => by
          have b1 := (nI_eq (by omega) (by omega)).mp a3
          have b2 := (nI_eq (by omega) (by omega)).mp a4
          subst b1
          subst b2
          exact hc ⟨a5, a6⟩))]
        dsimp only [Option.toList_some, List.cons_append, List.nil_append]
        rw [B128_14, B128_18, if_neg (by decide), B128_114]
      rw [B127_30, h3, if_pos (nI_lt hx (by omega)), xy_nI, jgo_some (d := d + 2) rfl k1]
      dsimp only [Option.toList_some, List.cons_append, List.nil_append]
      rw [B127_49, if_neg (by decide), B127_66, e6, show nI gn + 0 = nI (gn + 0) from nI_add gn 0, nI_1 x, j_up_own, if_neg (show ¬ (7 : Nat) = 6 by decide), e7, if_neg (show ¬ nI mx < nI 0 from nI_nlt (by omega) (by omega))]
      rfl
    · rw [B341_71, if_pos (nI_lt hx (by omega)), e1, if_pos (j_in_nI (by omega) (by decide)), nI_clamp (n := 3072 * s + 64 * y + x) (by omega), h9 s hs x y (by omega) (by omega)]
      by_cases ho : o s x y = 0
      · have hg0 : ¬ g (64 * y + x) = 0 := fun r => hc ⟨ho, r⟩
        rw [ho, if_neg (by decide), yx_nI, if_pos (j_in_nI hp (by decide)), nI_clamp (n := 64 * y + x) (by omega), F0.2.1, if_pos (show (0 : Int32) < nI (g (64 * y + x)) from nI_lt (a := 0) (by omega) (by have := F0.2.2; omega)), B341_364, nI_1 x]
      · rw [if_pos (show (0 : Int32) < nI (o s x y) from nI_lt (a := 0) (by omega) (h7 s x y)), B341_364, nI_1 x]
end SHEET6
