/-! SEA: what is flooded, second one; lying down, first one -/
section SEBJ
variable {d e : Nat} {I J : Nat → Nat → Int32} {L L' : Nat → Nat → Int64} {pa pb pu pw : Option Nat} {m : Nat → Int32} {o : Nat}
theorem flood_r (h : mQ m I J) (ho : J 0 62 = nI o) {A b c : Int} (h5 : J 0 66 = vI A) (h6 : J 0 67 = vI b) (h7 : J 0 68 = vI c) (ha : -200001 ≤ A ∧ A ≤ 200001) (hb : -2048 ≤ b ∧ b ≤ 2048) (hc : -2048 ≤ c ∧ c ≤ 2048) : ∃ v : Int32, (∀ i, i < 32 → (v.toBitVec.getLsbD i = true ↔ flB m o A b c 8 i ∧ o.testBit i = false)) ∧ jv (e + 1) 321 0 [some (.ref 0), none, none, none, none, none, none, none] [] (shR, J, L, pR) = some (some (.int (if v = 0 then 0 else 1)), (shR, j_up J 0 62 (nI o ||| v), L, pR)) := by
  have loop : ∀ (r k : Nat) (x : Int32) (o3 o4 o5 o6 o7 : Option Value), k + r = 8 → (∀ i, i < 32 → (x.toBitVec.getLsbD i = true ↔ flB m o A b c k i ∧ o.testBit i = false)) → ∃ v : Int32, (∀ i, i < 32 → (v.toBitVec.getLsbD i = true ↔ flB m o A b c 8 i ∧ o.testBit i = false)) ∧ jv (e + 1) 321 4 [some (.ref 0), some (.int x), some (.int (nI k)), o3, o4, o5, o6, o7] [] (shR, J, L, pR) = some (some (.int (if v = 0 then 0 else 1)), (shR, j_up J 0 62 (nI o ||| v), L, pR)) := by
    intro r
    induction r with
    | zero =>
      intro k x o3 o4 o5 o6 o7 hk hx
      have : k = 8 := by omega
      subst this
      refine ⟨x, hx, ?_⟩
      rw [B321_4, if_neg (by decide), ho]
      by_cases z : x = 0
      · rw [if_pos z, if_pos z, B321_199, if_pos bl_0]
      · rw [if_neg z, if_neg z, B321_199, if_pos bl_1]
    | succ r ih =>
      intro k x o3 o4 o5 o6 o7 hk hx
      have hk8 : k < 8 := by omega
      obtain ⟨hx4, ⟨y, y1, y2⟩, ⟨s, s1, s2⟩, ⟨q, q1, q2⟩, ⟨z, z1, z2⟩⟩ := h.open_ hk8
      have pb' := plY_b (s := s) (k := q) ha hb hc (by omega) (by omega)
      have eA : opA m A b c k ↔ m (432 + k * 6) ≠ 0 ∧ 64 * (z : Int) < plY A b c s q := by
        unfold opA; rw [mv_n z2 (by omega), mN_n s2 (by omega), mN_n q2 (by omega)]
      have skip : ¬ opA m A b c k → ∀ i, i < 32 → (x.toBitVec.getLsbD i = true ↔ flB m o A b c (k + 1) i ∧ o.testBit i = false) := by
        intro na i hi
        rw [hx i hi, flB_s]
        constructor
        · rintro ⟨u1, u2⟩; exact ⟨Or.inl u1, u2⟩
        · rintro ⟨(w | ⟨w, -⟩), u2⟩
          · exact ⟨w, u2⟩
          · exact absurd w na
      have ee : ∀ x, nI (432 + k * 6) + nI x = nI (432 + x + k * 6) := fun x => by rw [nI_add, show 432 + k * 6 + x = 432 + x + k * 6 by omega]
      have jj : ∀ x, x < 8 → j_in (nI (432 + x + k * 6)) 1189 = true := fun x hx => j_in_nI (by omega) (by decide)
      have cc : ∀ x, x < 8 → (nI (432 + x + k * 6)).toNatClampNeg = 432 + x + k * 6 := fun x hx => nI_clamp (by omega)
      have mm : ∀ x, x < 8 → J 6 (432 + x + k * 6) = m (432 + x + k * 6) := fun x hx => h.2.1 _ (by omega)
      rw [B321_4, if_pos (show nI k < 8 from nI_lt (b := 8) (by omega) (by decide)), g_at_5_0 h.2.2.2]
      dsimp only [Option.toList_some, List.cons_append, List.nil_append]
      rw [B321_17, show nI (432 + k * 6) + 1 = nI (433 + k * 6) from ee 1, show nI (432 + k * 6) + 2 = nI (434 + k * 6) from ee 2, show nI (432 + k * 6) + 3 = nI (435 + k * 6) from ee 3, show nI (432 + k * 6) + 4 = nI (436 + k * 6) from ee 4, show nI (432 + k * 6) + 5 = nI (437 + k * 6) from ee 5, if_pos (show j_in (nI (433 + k * 6)) 1189 = true from jj 1 (by decide)), if_pos (show j_in (nI (434 + k * 6)) 1189 = true from jj 2 (by decide)), if_pos (show j_in (nI (432 + k * 6)) 1189 = true from jj 0 (by decide)), show (nI (432 + k * 6)).toNatClampNeg = 432 + k * 6 from cc 0 (by decide), show (nI (433 + k * 6)).toNatClampNeg = 433 + k * 6 from cc 1 (by decide), show (nI (434 + k * 6)).toNatClampNeg = 434 + k * 6 from cc 2 (by decide), show (nI (435 + k * 6)).toNatClampNeg = 435 + k * 6 from cc 3 (by decide), show (nI (436 + k * 6)).toNatClampNeg = 436 + k * 6 from cc 4 (by decide), show (nI (437 + k * 6)).toNatClampNeg = 437 + k * 6 from cc 5 (by decide), show J 6 (432 + k * 6) = m (432 + k * 6) from mm 0 (by decide), show J 6 (433 + k * 6) = nI s from (mm 1 (by decide)).trans s2, show J 6 (434 + k * 6) = nI q from (mm 2 (by decide)).trans q2, show J 6 (435 + k * 6) = nI z from (mm 3 (by decide)).trans z2, show J 6 (436 + k * 6) = m (436 + k * 6) from mm 4 (by decide), show J 6 (437 + k * 6) = nI y from (mm 5 (by decide)).trans y2, h5, h6, h7, plY_v, show (64 : Int32) * nI z = vI (64 * (z : Int)) by rw [nI_vI, show (64 : Int32) = vI 64 from rfl, vI_mul]]
      by_cases w0 : m (432 + k * 6) = 0
      · rw [if_pos w0, B321_174, nI_1]
        exact ih (k + 1) x _ _ _ _ _ (by omega) (skip (fun y => (eA.mp y).1 w0))
      rw [if_neg w0, if_pos (show j_in (nI (435 + k * 6)) 1189 = true from jj 3 (by decide))]
      by_cases w1 : 64 * (z : Int) < plY A b c s q
      case neg =>
        rw [if_neg (fun y => w1 ((vI_lt (by omega) (by omega) (by omega) (by omega)).mp y)), B321_174, nI_1]
        exact ih (k + 1) x _ _ _ _ _ (by omega) (skip (fun y => w1 (eA.mp y).2))
      have act : opA m A b c k := eA.mpr ⟨w0, w1⟩
      have ey : mNa m (437 + k * 6) = y := mN_n y2 (by omega)
      rw [if_pos ((vI_lt (by omega) (by omega) (by omega) (by omega)).mpr w1), if_pos (show j_in (nI (436 + k * 6)) 1189 = true from jj 4 (by decide)), if_pos (show j_in (nI (437 + k * 6)) 1189 = true from jj 5 (by decide))]
      have isy := open_r (e := e) (L := L) ho (show y < 16 by omega)
      rcases hx4 with x4 | ⟨xx, x1, x2⟩
      · -- from the sea
        have eB : ∀ i, opB m o k i ↔ i = y := by
          intro i
          unfold opB
          rw [ey, x4]
          constructor
          · rintro (⟨w, -⟩ | ⟨w, -⟩)
            · exact w
            · exact absurd rfl w
          · intro w; exact Or.inl ⟨w, Or.inl rfl⟩
        rw [x4, if_pos (show (-1 : Int32) < 0 by decide), B321_128, jgo_some (d := e) rfl isy]
        dsimp only [Option.toList_some, List.cons_append, List.nil_append]
        rw [B321_134]
        have tail : ∀ x' : Int32, (∀ i, i < 32 → (x'.toBitVec.getLsbD i = true ↔ flB m o A b c (k + 1) i ∧ o.testBit i = false)) → ∃ v : Int32, (∀ i, i < 32 → (v.toBitVec.getLsbD i = true ↔ flB m o A b c 8 i ∧ o.testBit i = false)) ∧ jv (e + 1) 321 144 [some (.ref 0), some (.int x'), some (.int (nI k)), some (.int (nI (432 + k * 6))), some (.int (nI s)), some (.int (vI (plY A b c s q))), some (.int (-1)), some (.int (nI y))] [] (shR, J, L, pR) = some (some (.int (if v = 0 then 0 else 1)), (shR, j_up J 0 62 (nI o ||| v), L, pR)) := by
          intro x' hx'
          rw [B321_144, jgo_some (d := e) rfl isy]
          dsimp only [Option.toList_some, List.cons_append, List.nil_append]
          rw [B321_150, if_pos (show (-1 : Int32) < 0 by decide), ite_self, B321_174, nI_1]
          exact ih (k + 1) x' _ _ _ _ _ (by omega) hx'
        by_cases u : o.testBit y = true
        · rw [if_pos u, if_neg (show ¬ (1 : Int32) = 0 by decide)]
          refine tail x (fun i hi => ?_)
          rw [hx i hi, flB_s, eB]
          constructor
          · rintro ⟨u1, u2⟩; exact ⟨Or.inl u1, u2⟩
          · rintro ⟨(w | ⟨-, w⟩), u2⟩
            · exact ⟨w, u2⟩
            · rw [w, u] at u2; cases u2
        · rw [if_neg u, if_pos rfl]
          refine tail _ (fun i hi => ?_)
          rw [or_bit x (by omega) hi, hx i hi, flB_s, eB]
          constructor
          · rintro (⟨u1, u2⟩ | w)
            · exact ⟨Or.inl u1, u2⟩
            · exact ⟨Or.inr ⟨act, w⟩, by rw [w]; simpa using u⟩
          · rintro ⟨(w | ⟨-, w⟩), u2⟩
            · exact Or.inl ⟨w, u2⟩
            · exact Or.inr w
      · have ex : mNa m (436 + k * 6) = xx := mN_n x2 (by omega)
        have ne : ¬ nI xx = -1 := fun yy => by
          have := congrArg Int32.toInt yy
          rw [nI_vI, vI_i (by omega) (by omega)] at this
          have e1 : (-1 : Int32).toInt = -1 := by decide
          omega
        have eB : ∀ i, opB m o k i ↔ (i = y ∧ o.testBit xx = true) ∨ (i = xx ∧ o.testBit y = true) := by
          intro i
          unfold opB
          rw [ey, ex, x2]
          constructor
          · rintro (⟨u1, (u2 | u2)⟩ | ⟨-, u2, u3⟩)
            · exact absurd u2 ne
            · exact Or.inl ⟨u1, u2⟩
            · exact Or.inr ⟨u2, u3⟩
          · rintro (⟨u1, u2⟩ | ⟨u2, u3⟩)
            · exact Or.inl ⟨u1, Or.inr u2⟩
            · exact Or.inr ⟨ne, u2, u3⟩
        have isx := open_r (e := e) (L := L) ho (show xx < 16 by omega)
        -- the second half
        have half : ∀ x' : Int32, (∀ i, i < 32 → (x'.toBitVec.getLsbD i = true ↔ (flB m o A b c k i ∨ (i = y ∧ o.testBit xx = true)) ∧ o.testBit i = false)) → ∃ v : Int32, (∀ i, i < 32 → (v.toBitVec.getLsbD i = true ↔ flB m o A b c 8 i ∧ o.testBit i = false)) ∧ jv (e + 1) 321 144 [some (.ref 0), some (.int x'), some (.int (nI k)), some (.int (nI (432 + k * 6))), some (.int (nI s)), some (.int (vI (plY A b c s q))), some (.int (nI xx)), some (.int (nI y))] [] (shR, J, L, pR) = some (some (.int (if v = 0 then 0 else 1)), (shR, j_up J 0 62 (nI o ||| v), L, pR)) := by
          intro x' hx'
          -- nothing more
          have stay : ¬ (o.testBit y = true ∧ o.testBit xx = false) → ∃ v : Int32, (∀ i, i < 32 → (v.toBitVec.getLsbD i = true ↔ flB m o A b c 8 i ∧ o.testBit i = false)) ∧ jv (e + 1) 321 174 [some (.ref 0), some (.int x'), some (.int (nI k)), some (.int (nI (432 + k * 6))), some (.int (nI s)), some (.int (vI (plY A b c s q))), some (.int (nI xx)), some (.int (nI y))] [] (shR, J, L, pR) = some (some (.int (if v = 0 then 0 else 1)), (shR, j_up J 0 62 (nI o ||| v), L, pR)) := by
            intro nn
            rw [B321_174, nI_1]
            refine ih (k + 1) x' _ _ _ _ _ (by omega) (fun i hi => ?_)
            rw [hx' i hi, flB_s, eB]
            constructor
            · rintro ⟨(w | w), u2⟩
              · exact ⟨Or.inl w, u2⟩
              · exact ⟨Or.inr ⟨act, Or.inl w⟩, u2⟩
            · rintro ⟨(w | ⟨-, (w | ⟨w1, w2⟩)⟩), u2⟩
              · exact ⟨Or.inl w, u2⟩
              · exact ⟨Or.inr w, u2⟩
              · exact absurd ⟨w2, by rw [← w1]; exact u2⟩ nn
          rw [B321_144, jgo_some (d := e) rfl isy]
          dsimp only [Option.toList_some, List.cons_append, List.nil_append]
          rw [B321_150]
          by_cases u : o.testBit y = true
          · rw [if_pos u, if_neg (show ¬ (1 : Int32) = 0 by decide), if_neg (nI_pos (by omega)), jgo_some (d := e) rfl isx]
            dsimp only [Option.toList_some, List.cons_append, List.nil_append]
            rw [B321_164]
            by_cases u' : o.testBit xx = true
            · rw [if_pos u', if_neg (show ¬ (1 : Int32) = 0 by decide)]
              exact stay (fun w => by rw [u'] at w; exact absurd w.2 (by decide))
            · have u0 : o.testBit xx = false := by simpa using u'
              rw [if_neg u', if_pos rfl, B321_174, nI_1]
              refine ih (k + 1) _ _ _ _ _ _ (by omega) (fun i hi => ?_)
              rw [or_bit x' (by omega) hi, hx' i hi, flB_s, eB]
              constructor
              · rintro (⟨(w | w), u2⟩ | w)
                · exact ⟨Or.inl w, u2⟩
                · exact ⟨Or.inr ⟨act, Or.inl w⟩, u2⟩
                · exact ⟨Or.inr ⟨act, Or.inr ⟨w, u⟩⟩, by rw [w]; exact u0⟩
              · rintro ⟨(w | ⟨-, (w | ⟨w1, w2⟩)⟩), u2⟩
                · exact Or.inl ⟨Or.inl w, u2⟩
                · exact Or.inl ⟨Or.inr w, u2⟩
                · exact Or.inr w1
          · rw [if_neg u, if_pos rfl]
            exact stay (fun w => u w.1)
        rw [x2, if_neg (nI_pos (by omega)), jgo_some (d := e) rfl isx]
        dsimp only [Option.toList_some, List.cons_append, List.nil_append]
        rw [B321_125]
        by_cases u : o.testBit xx = true
        · rw [if_pos u, if_neg (show ¬ (1 : Int32) = 0 by decide), B321_128, jgo_some (d := e) rfl isy]
          dsimp only [Option.toList_some, List.cons_append, List.nil_append]
          rw [B321_134]
          by_cases u' : o.testBit y = true
          · rw [if_pos u', if_neg (show ¬ (1 : Int32) = 0 by decide)]
            refine half x (fun i hi => ?_)
            rw [hx i hi]
            constructor
            · rintro ⟨u1, u2⟩; exact ⟨Or.inl u1, u2⟩
            · rintro ⟨(w | ⟨w, -⟩), u2⟩
              · exact ⟨w, u2⟩
              · rw [w, u'] at u2; cases u2
          · rw [if_neg u', if_pos rfl]
            refine half _ (fun i hi => ?_)
            rw [or_bit x (by omega) hi, hx i hi]
            constructor
            · rintro (⟨u1, u2⟩ | w)
              · exact ⟨Or.inl u1, u2⟩
              · exact ⟨Or.inr ⟨w, u⟩, by rw [w]; simpa using u'⟩
            · rintro ⟨(w | ⟨w, -⟩), u2⟩
              · exact Or.inl ⟨w, u2⟩
              · exact Or.inr w
        · rw [if_neg u, if_pos rfl]
          refine half x (fun i hi => ?_)
          rw [hx i hi]
          constructor
          · rintro ⟨u1, u2⟩; exact ⟨Or.inl u1, u2⟩
          · rintro ⟨(w | ⟨-, w⟩), u2⟩
            · exact ⟨w, u2⟩
            · exact absurd w u
  rw [B321_0]
  exact loop 8 0 0 none none none none none (by omega) (fun i hi => by
    constructor
    · intro w
      have : (0 : Int32).toBitVec.getLsbD i = false := (i_eq0 0).mp rfl i hi
      rw [this] at w; cases w
    · rintro ⟨⟨k, k1, -⟩, -⟩; omega)
/-- the same bits, the same number -/
theorem bits_eq {v w : Int32} {P : Nat → Prop} (h1 : ∀ i, i < 32 → (v.toBitVec.getLsbD i = true ↔ P i)) (h2 : ∀ i, i < 32 → (w.toBitVec.getLsbD i = true ↔ P i)) : v = w := by
  apply Int32.toBitVec_inj.mp
  apply BitVec.eq_of_getLsbD_eq
  intro i hi
  have := (h1 i hi).trans (h2 i hi).symm
  exact Bool.eq_iff_iff.mpr this
/-- what is flooded is a set of spaces -/
theorem fl_set (h : mQ m I J) (hop : ∀ k, k < 8 → opRt m k) (ho : opKd m o) (o16 : o < 65536) {A b c : Int} {v : Int32} (hv : ∀ i, i < 32 → (v.toBitVec.getLsbD i = true ↔ flB m o A b c 8 i ∧ o.testBit i = false)) : ∃ n, n < 65536 ∧ v = nI n ∧ opKd m (o ||| n) ∧ o ||| n < 65536 ∧ (∀ p, n.testBit p = true → o.testBit p = false ∧ p < 16) := by
  have sp : ∀ i, flB m o A b c 8 i → i < 16 ∧ m (152 + i * 8) ≠ 0 := by
    rintro i ⟨k, k1, ⟨k2, -⟩, k3⟩
    obtain ⟨hx4, ⟨y, y1, y2⟩, -⟩ := h.open_ k1
    have ey : mNa m (437 + k * 6) = y := mN_n y2 (by omega)
    rcases hop k k1 with z | ⟨z1, z2⟩
    · exact absurd z k2
    have nz : ∀ x : Int32, 0 < x → x ≠ 0 := fun x hx w => by rw [w] at hx; exact absurd hx (by decide)
    rcases k3 with ⟨w, -⟩ | ⟨w1, w2, -⟩
    · rw [ey] at w z1
      subst w
      exact ⟨by omega, nz _ z1⟩
    · obtain ⟨xx, x1, x2⟩ := hx4.resolve_left w1
      have ex : mNa m (436 + k * 6) = xx := mN_n x2 (by omega)
      have z3 := z2.resolve_left w1
      rw [ex] at w2 z3
      subst w2
      exact ⟨by omega, nz _ z3⟩
  obtain ⟨n, n1, n2⟩ := of_bits (v := v) (fun i i1 i2 => by
    cases hb : v.toBitVec.getLsbD i with
    | false => rfl
    | true => have := (sp i ((hv i i2).mp hb).1).1; omega)
  have nb : ∀ p, n.testBit p = true → p < 16 ∧ flB m o A b c 8 p ∧ o.testBit p = false := by
    intro p hp
    have p16 : p < 16 := by
      rcases Nat.lt_or_ge p 16 with z | z
      · exact z
      · have : n < 2 ^ p := Nat.lt_of_lt_of_le n1 (Nat.pow_le_pow_right (show 0 < 2 by decide) z)
        rw [Nat.testBit_lt_two_pow this] at hp; cases hp
    have := (hv p (by omega)).mp (by rw [n2, nI_bit (by omega)]; exact hp)
    exact ⟨p16, this⟩
  refine ⟨n, n1, n2, fun p hp hb => ?_, Nat.or_lt_two_pow (n := 16) o16 n1, fun p hp => ⟨(nb p hp).2.2, (nb p hp).1⟩⟩
  rw [Nat.testBit_or, Bool.or_eq_true] at hb
  rcases hb with z | z
  · exact ho p hp z
  · exact (sp p (nb p z).2.1).2
end SEBJ
