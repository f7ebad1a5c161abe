/-! PLATES: lay() of the reference, to its end -/
noncomputable def layF (o : Nat → Nat → Nat → Nat) (S : Nat → Nat → Nat → Prop) (p : Nat) : Nat → Nat → Nat → Nat := fun s x y => @ite _ (S s x y) (Classical.propDecidable _) (p + 1) (o s x y)
theorem layF_y {o : Nat → Nat → Nat → Nat} {S : Nat → Nat → Nat → Prop} {p s x y : Nat} (h : S s x y) : layF o S p s x y = p + 1 := by unfold layF; rw [if_pos h]
theorem layF_n {o : Nat → Nat → Nat → Nat} {S : Nat → Nat → Nat → Prop} {p s x y : Nat} (h : ¬ S s x y) : layF o S p s x y = o s x y := by unfold layF; rw [if_neg h]
theorem layF_iff {o : Nat → Nat → Nat → Nat} {S S' : Nat → Nat → Nat → Prop} {p s x y : Nat} (h : S s x y ↔ S' s x y) : layF o S p s x y = layF o S' p s x y := by
  by_cases q : S s x y
  · rw [layF_y q, layF_y (h.mp q)]
  · rw [layF_n q, layF_n (fun z => q (h.mpr z))]
theorem ownR.iff {o : Nat → Nat → Nat → Nat} {S S' : Nat → Nat → Nat → Prop} {p : Nat} {J : Nat → Nat → Int32} (O : ownR (layF o S p) J) (h : ∀ s x y, S s x y ↔ S' s x y) : ownR (layF o S' p) J := fun s hs x y hx hy => by rw [O s hs x y hx hy, layF_iff (h s x y)]
theorem ownR.set {o : Nat → Nat → Nat → Nat} {S : Nat → Nat → Nat → Prop} {p : Nat} {J : Nat → Nat → Int32} (O : ownR (layF o S p) J) {s X Y : Nat} (hs : s < 6) (hX : X < 64) (hY : Y < 48) : ownR (layF o (fun s' x y => S s' x y ∨ (s' = s ∧ x = X ∧ y = Y)) p) (j_up J 53 (3072 * s + 64 * Y + X) (nI (p + 1))) := fun s' hs' x y hx hy => by
  rw [j_up_own]
  by_cases q : s' = s ∧ x = X ∧ y = Y
  · rw [if_pos (by omega), layF_y (Or.inr q)]
  · rw [if_neg (by omega), O s' hs' x y hx hy]
    congr 1
    exact layF_iff ⟨Or.inl, fun z => by rcases z with z | z; exact z; exact absurd z q⟩
def nearS (nr : Nat → Nat → Nat → Prop) (pl : Nat → Nat → Prop) (W H s x y t g : Nat) : Nat → Nat → Nat → Prop := fun s' X Y => nr s' X Y ∨ (s' = s ∧ ∃ i j, pl i j ∧ (x + tnX W H t i j ≤ X + g ∧ X ≤ x + tnX W H t i j + g) ∧ (y + tnY W H t i j ≤ Y + g ∧ Y ≤ y + tnY W H t i j + g))
def cellS (pl : Nat → Nat → Prop) (W H s x y t : Nat) : Nat → Nat → Nat → Prop := fun s' X Y => s' = s ∧ ∃ i j, pl i j ∧ X = x + tnX W H t i j ∧ Y = y + tnY W H t i j
def frL (J J' : Nat → Nat → Int32) : Prop := (∀ c, c ≠ 0 → c ≠ 53 → c ≠ 54 → c ≠ 55 → c ≠ 56 → J' c = J c) ∧ ∀ f, f ≠ 99 → J' 0 f = J 0 f
section NEST8
variable {d e : Nat} {L L' : Nat → Nat → Int64} {pa pb pu pw : Option Nat} {K : Option Value → jS → jO} {w h W H : Nat} {v : Nat → Int32} {nr : Nat → Nat → Nat → Prop} {o : Nat → Nat → Nat → Nat}
theorem ly_k {J : Nat → Nat → Int32} {s p g k x y n : Nat} {cx cy : Nat → Nat} {S : Nat → Nat → Nat → Prop} (hs : s < 6) (hp : p < 32) (hg : g < 4) (hn : n ≤ 288) (hk : k < n) (h99 : J 0 99 = nI n) (h49 : J 49 p = nI s) (h50 : J 50 p = nI x) (h51 : J 51 p = nI y) (c5 : J 55 k = nI (cx k)) (c6 : J 56 k = nI (cy k)) (hx : x + cx k < 64) (hy : y + cy k < 48) (B : barR nr J) (O : ownR (layF o S p) J) (o4 o5 o6 o7 : Option Value) : ∃ J', (∀ c, c ≠ 53 → c ≠ 54 → J' c = J c) ∧ barR (fun s' X Y => nr s' X Y ∨ (s' = s ∧ (x + cx k ≤ X + g ∧ X ≤ x + cx k + g) ∧ (y + cy k ≤ Y + g ∧ Y ≤ y + cy k + g))) J' ∧ ownR (layF o (fun s' X Y => S s' X Y ∨ (s' = s ∧ X = x + cx k ∧ Y = y + cy k)) p) J' ∧ ∃ z4 z5 z6 z7 : Option Value, jv e 337 18 [some (.ref 0), some (.int (nI p)), some (.int (nI g)), some (.int (nI k)), o4, o5, o6, o7] [] (shR, J, L', pR) = jv e 337 18 [some (.ref 0), some (.int (nI p)), some (.int (nI g)), some (.int (nI (k + 1))), z4, z5, z6, z7] [] (shR, J', L', pR) := by
  have jp : j_in (nI p) 32 = true := j_in_nI hp (by decide)
  have jk : j_in (nI k) 288 = true := j_in_nI (by omega) (by decide)
  have e1 : 3072 * nI s + 64 * (nI y + nI (cy k)) + (nI x + nI (cx k)) = nI (3072 * s + 64 * (y + cy k) + (x + cx k)) := by
    rw [nI_add, nI_add, show 3072 * nI s = nI (3072 * s) from nI_mul 3072 s, show 64 * nI (y + cy k) = nI (64 * (y + cy k)) from nI_mul 64 _, nI_add, nI_add]
  generalize hJ1 : j_up J 53 (3072 * s + 64 * (y + cy k) + (x + cx k)) (nI (p + 1)) = J1
  have f1 : ∀ c, c ≠ 53 → J1 c = J c := fun c hc => by rw [← hJ1, j_up_cell _ hc]
  have st : jv e 337 18 [some (.ref 0), some (.int (nI p)), some (.int (nI g)), some (.int (nI k)), o4, o5, o6, o7] [] (shR, J, L', pR) = jv e 337 89 [some (.ref 0), some (.int (nI p)), some (.int (nI g)), some (.int (nI k)), some (.int (nI (x + cx k))), some (.int (nI (y + cy k))), some (.int (zI (y + cy k) g)), o7] [] (shR, J1, L', pR) := by
    rw [B337_18, h99, if_pos (nI_lt hk (by omega)), if_pos jp, if_pos jk, if_pos jp, if_pos jk, if_pos jp, nI_clamp (n := p) (by omega), nI_clamp (n := k) (by omega), h49, h50, h51, c5, c6, e1, if_pos (j_in_nI (by omega) (by decide)), nI_clamp (by omega), nI_1 p, nI_add, nI_add, hJ1]
    rfl
  have B1 : barR nr J1 := by
    unfold barR
    rw [f1 54 (by decide)]
    exact B
  have O1 : ownR (layF o (fun s' X Y => S s' X Y ∨ (s' = s ∧ X = x + cx k ∧ Y = y + cy k)) p) J1 := by
    rw [← hJ1]
    exact O.set hs hx hy
  obtain ⟨J2, f2, B2, z6, z7, k2⟩ := ly_c (e := e) (L' := L') (k := k) hs hp hg (by rw [f1 49 (by decide), h49]) B1 hx hy o7
  refine ⟨J2, fun c a b => (f2 c b).trans (f1 c a), B2, ?_, _, _, z6, z7, st.trans k2⟩
  unfold ownR
  rw [f2 53 (by decide)]
  exact O1
theorem lay_r {J : Nat → Nat → Int32} (G : plIn (plV v) W H) (hr : rCst J) {q p g s x y t : Nat} (hq : q < 8) (hp : p < 32) (hg : g < 4) (hs : s < 6) (ht : t < 4) (h48 : J 48 p = nI q) (h49 : J 49 p = nI s) (h50 : J 50 p = nI x) (h51 : J 51 p = nI y) (h52 : J 52 p = nI t) (hv : ∀ j, j < 12 → J 6 (600 + q * 14 + j) = v j) (hw : w ≤ 64) (hh : h ≤ 48) (hf : fitP w h nr (plV v) W H s x y t) (B : barR nr J) (O : ownR o J) : ∃ J', frL J J' ∧ barR (nearS nr (plV v) W H s x y t g) J' ∧ ownR (layF o (cellS (plV v) W H s x y t) p) J' ∧ jv (e + 2) 337 0 [some (.ref 0), some (.int (nI p)), some (.int (nI g)), none, none, none, none, none] [] (shR, J, L', pR) = some (none, (shR, J', L', pR)) := by
  have jp : j_in (nI p) 32 = true := j_in_nI hp (by decide)
  obtain ⟨J1, f1, ⟨n, hn, c0, cx, cy, c1, c2⟩, k1⟩ := tn_all (e := e) (L' := L') (t := t) G hr hq ht hv
  have fr : ∀ c, c ≠ 0 → c ≠ 55 → c ≠ 56 → J1 c = J c := f1.1
  have xy : ∀ k, k < n → x + cx k < 64 ∧ y + cy k < 48 := fun k hk => by
    obtain ⟨-, -, i, j, hp, a, b⟩ := c1 k hk
    have := hf i j hp
    rw [a, b]
    omega
  obtain ⟨⟨J2, z⟩, ⟨g1, g2, g3⟩, g4⟩ := j_runP (fun k (m : (Nat → Nat → Int32) × (Nat → Option Value)) => jv (e + 2) 337 18 [some (.ref 0), some (.int (nI p)), some (.int (nI g)), some (.int (nI k)), m.2 4, m.2 5, m.2 6, m.2 7] [] (shR, m.1, L', pR)) (fun k m => (∀ c, c ≠ 53 → c ≠ 54 → m.1 c = J1 c) ∧ barR (fun s' X Y => nr s' X Y ∨ ∃ k', k' < k ∧ s' = s ∧ (x + cx k' ≤ X + g ∧ X ≤ x + cx k' + g) ∧ (y + cy k' ≤ Y + g ∧ Y ≤ y + cy k' + g)) m.1 ∧ ownR (layF o (fun s' X Y => ∃ k', k' < k ∧ s' = s ∧ X = x + cx k' ∧ Y = y + cy k') p) m.1) n (fun k hk m hm => by
    obtain ⟨m1, m2, m3⟩ := hm
    obtain ⟨d1, d2, -⟩ := c1 k hk
    obtain ⟨hx, hy⟩ := xy k hk
    obtain ⟨J3, b1, b2, b3, z4, z5, z6, z7, b4⟩ := ly_k (e := e + 2) (L' := L') (k := k) (x := x) (y := y) (cx := cx) (cy := cy) hs hp hg hn hk (by rw [m1 0 (by decide) (by decide), c0]) (by rw [m1 49 (by decide) (by decide), fr 49 (by decide) (by decide) (by decide), h49]) (by rw [m1 50 (by decide) (by decide), fr 50 (by decide) (by decide) (by decide), h50]) (by rw [m1 51 (by decide) (by decide), fr 51 (by decide) (by decide) (by decide), h51]) (by rw [m1 55 (by decide) (by decide), d1]) (by rw [m1 56 (by decide) (by decide), d2]) hx hy m2 m3 (m.2 4) (m.2 5) (m.2 6) (m.2 7)
    refine ⟨(J3, fun i => if i = 4 then z4 else if i = 5 then z5 else if i = 6 then z6 else z7), ⟨fun c a b => (b1 c a b).trans (m1 c a b), b2.iff (fun s' hs' X hX Y hY => ?_), b3.iff (fun s' X Y => ?_)⟩, b4⟩
    · constructor
      · rintro ((u | ⟨k', u1, u2⟩) | u)
        · exact Or.inl u
        · exact Or.inr ⟨k', by omega, u2⟩
        · exact Or.inr ⟨k, by omega, u⟩
      · rintro (u | ⟨k', u1, u2⟩)
        · exact Or.inl (Or.inl u)
        · by_cases e : k' = k
          · subst e
            exact Or.inr u2
          · exact Or.inl (Or.inr ⟨k', by omega, u2⟩)
    · constructor
      · rintro (⟨k', u1, u2⟩ | u)
        · exact ⟨k', by omega, u2⟩
        · exact ⟨k, by omega, u⟩
      · rintro ⟨k', u1, u2⟩
        by_cases e : k' = k
        · subst e
          exact Or.inr u2
        · exact Or.inl ⟨k', by omega, u2⟩) (J1, fun _ => none) ⟨fun _ _ _ => rfl, by
      refine barR.iff (nr := nr) ?_ (fun s' hs' X hX Y hY => ⟨Or.inl, fun u => by
        rcases u with u | ⟨k', u, -⟩
        · exact u
        · exact absurd u (Nat.not_lt_zero _)⟩)
      unfold barR
      dsimp only
      rw [fr 54 (by decide) (by decide) (by decide)]
      exact B, fun s' hs' X Y hX hY => by
      dsimp only
      rw [layF_n (fun u => by obtain ⟨k', u, -⟩ := u; exact absurd u (Nat.not_lt_zero _)), fr 53 (by decide) (by decide) (by decide)]
      exact O s' hs' X Y hX hY⟩
  dsimp only at g1 g2 g3 g4
  refine ⟨J2, ⟨fun c a0 a1 a2 a3 a4 => (g1 c a1 a2).trans (fr c a0 a3 a4), fun f a => by rw [g1 0 (by decide) (by decide), f1.2 f a]⟩, g2.iff (fun s' hs' X hX Y hY => ?_), g3.iff (fun s' X Y => ?_), ?_⟩
  · unfold nearS
    constructor
    · rintro (u | ⟨k', u1, u2, u3⟩)
      · exact Or.inl u
      · obtain ⟨-, -, i, j, hp, a, b⟩ := c1 k' u1
        rw [a, b] at u3
        exact Or.inr ⟨u2, i, j, hp, u3⟩
    · rintro (u | ⟨u1, i, j, hp, u2⟩)
      · exact Or.inl u
      · obtain ⟨k', hk', a, b⟩ := c2 i j hp
        rw [← a, ← b] at u2
        exact Or.inr ⟨k', hk', u1, u2⟩
  · unfold cellS
    constructor
    · rintro ⟨k', u1, u2, u3, u4⟩
      obtain ⟨-, -, i, j, hp, a, b⟩ := c1 k' u1
      rw [a] at u3
      rw [b] at u4
      exact ⟨u2, i, j, hp, u3, u4⟩
    · rintro ⟨u1, i, j, hp, u2, u3⟩
      obtain ⟨k', hk', a, b⟩ := c2 i j hp
      rw [← a] at u2
      rw [← b] at u3
      exact ⟨k', hk', u1, u2, u3⟩
  · rw [B337_0, if_pos jp, if_pos jp, nI_clamp (n := p) (by omega), h48, h52, jgo_some (d := e + 1) rfl k1]
    dsimp only [Option.toList_none, List.nil_append]
    rw [B337_16]
    refine g4.trans ?_
    rw [B337_18, g1 0 (by decide) (by decide), c0, if_neg (nI_nlt (Nat.le_refl _) (by omega))]
end NEST8
