/-! PIPES: payBack() of the reference -/
section LEADI
variable {e : Nat} {L : Nat → Nat → Int64} {B : Nat → Prop} {to : Nat}
/-- the next entry of the list that is read -/
theorem rq.pop {now n m : Nat} {q : Option Nat} {Z : Nat → Prop} {f : Nat → Nat} {J : Nat → Nat → Int32} (Q : rq (now % 7) now n q (m + 1) 0 Z f J) (hwt : ∀ x, wtN 1000000 Z f x → now ≤ f x) : ∃ e0 x q', q = some e0 ∧ e0 < n ∧ x < 9600 ∧ J 70 e0 = nI x ∧ J 71 e0 = oN q' ∧ f x ≤ now ∧ (f x ≠ now → rq (now % 7) now n q' m 0 Z f J) ∧ (f x = now → ¬ Z x ∧ rq (now % 7) now n q' m 0 (fun y => y = x ∨ Z y) f J) := by
  obtain ⟨st, nx, pt, Lb, ⟨r1, r2, r3, r4, r5⟩, ⟨j1, j2, j3, j4⟩, k1, k2, k3⟩ := Q
  have hk : now % 7 < 7 := Nat.mod_lt _ (by decide)
  cases hl : Lb (now % 7) with
  | nil => rw [hl] at k2; exact absurd k2 (by simp)
  | cons e0 l =>
    have c1 := r1 _ hk
    have c3 := r3 _ hk
    rw [hl] at c1 c3 k2
    rw [List.map_cons] at c3
    obtain ⟨nd1, nd2⟩ := List.nodup_cons.mp c3
    have m0 : e0 ∈ Lb (now % 7) := by rw [hl]; exact List.mem_cons_self
    obtain ⟨a1, a2, v, a3, a4, a5, a6, a7⟩ := r2 _ hk e0 m0
    have ev : v = now := by omega
    subst ev
    have hsub : ∀ k x, x ∈ upO Lb (v % 7) l k → x ∈ Lb k := by
      intro k x hx
      unfold upO at hx
      split at hx
      · rename_i w
        rw [w, hl]
        exact List.mem_cons_of_mem _ hx
      · exact hx
    have hlen : l.length = m := by rw [List.length_cons] at k2; omega
    have com : (∀ k, k < 7 → chn nx (upO pt (v % 7) (nx e0) k) (upO Lb (v % 7) l k)) ∧ (∀ k, k < 7 → ((upO Lb (v % 7) l k).map st).Nodup) := by
      refine ⟨fun k hk' => ?_, fun k hk' => ?_⟩
      · by_cases w : k = v % 7
        · rw [w, upO_s, upO_s]; exact c1.2
        · rw [upO_n _ _ w, upO_n _ _ w]; exact r1 k hk'
      · by_cases w : k = v % 7
        · rw [w, upO_s]; exact nd2
        · rw [upO_n _ _ w]; exact r3 k hk'
    have jj : rqJ (v % 7) n f st nx (upO pt (v % 7) (nx e0)) J := by
      refine ⟨fun k hk' => ?_, j2, j3, j4⟩
      rw [j1 k hk']
      by_cases w : k = v % 7
      · rw [if_pos w, if_pos w]
      · rw [if_neg w, if_neg w, upO_n _ _ w]
    refine ⟨e0, st e0, nx e0, k1.symm.trans c1.1, a1, a2, (j2 e0 a1).1, (j2 e0 a1).2, a7, fun ne => ?_, fun eq => ?_⟩
    · refine ⟨st, nx, upO pt (v % 7) (nx e0), upO Lb (v % 7) l, ⟨com.1, fun k hk' x hx => r2 k hk' x (hsub k x hx), com.2, fun x hx => ?_, fun k hk' x hx => r5 k hk' x (hsub k x hx)⟩, jj, upO_s _ _ _, by rw [upO_s]; exact hlen, fun w w1 w2 => by omega⟩
      obtain ⟨x1, x2, x3⟩ := r4 x hx
      refine ⟨x1, ?_, x3⟩
      unfold upO
      split
      · rename_i w
        rw [w, hl] at x2
        rcases List.mem_cons.mp x2 with z | z
        · exfalso
          subst z
          rw [x3] at ne a7
          have := hwt x hx
          omega
        · exact z
      · exact x2
    · have nz : ¬ Z (st e0) := fun w => r5 _ hk e0 m0 w ⟨by rw [eq], by omega⟩
      refine ⟨nz, st, nx, upO pt (v % 7) (nx e0), upO Lb (v % 7) l, ⟨com.1, fun k hk' x hx => r2 k hk' x (hsub k x hx), com.2, fun x hx => ?_, fun k hk' x hx hz => ?_⟩, jj, upO_s _ _ _, by rw [upO_s]; exact hlen, fun w w1 w2 => by omega⟩
      · have hne : x ≠ st e0 := fun w => hx.2.2 (Or.inl w)
        obtain ⟨x1, x2, x3⟩ := r4 x ⟨hx.1, hx.2.1, fun w => hx.2.2 (Or.inr w)⟩
        refine ⟨x1, ?_, x3⟩
        unfold upO
        split
        · rename_i w
          rw [w, hl] at x2
          rcases List.mem_cons.mp x2 with z | z
          · exact absurd (z ▸ x3.symm) hne
          · exact z
        · exact x2
      · rcases hz with hz | hz
        · rw [hz, eq]
          by_cases w : k = v % 7
          · exfalso
            rw [w, upO_s] at hx
            exact nd1 (hz ▸ List.mem_map_of_mem hx)
          · omega
        · exact r5 k hk' x (hsub k x hx) hz
theorem rq.none_left {now n t : Nat} {q : Option Nat} {Z : Nat → Prop} {f : Nat → Nat} {J : Nat → Nat → Int32} (Q : rq (now % 7) now n q 0 t Z f J) : q = none ∧ (∀ x, wtN 1000000 Z f x → f x ≠ now) ∧ (∃ p k, rq 7 (now + 1) n p k (t + 1) Z f J) ∧ ∃ p k, rq 7 (now + 1) n p k 0 Z f J := by
  obtain ⟨st, nx, pt, Lb, ⟨r1, r2, r3, r4, r5⟩, ⟨j1, j2, j3, j4⟩, k1, k2, k3⟩ := Q
  have hk : now % 7 < 7 := Nat.mod_lt _ (by decide)
  have hl : Lb (now % 7) = [] := List.length_eq_zero_iff.mp k2
  have c1 := r1 _ hk
  rw [hl] at c1
  have hq : q = none := k1.symm.trans c1
  have I7 : rqI (now + 1) n Z f st nx pt Lb := by
    refine ⟨r1, fun k hk' x hx => ?_, r3, r4, fun k hk' x hx hz z => r5 k hk' x hx hz ⟨z.1, by omega⟩⟩
    obtain ⟨a1, a2, v, a3, a4, a5, a6, a7⟩ := r2 k hk' x hx
    refine ⟨a1, a2, v, a3, ?_, by omega, a6, a7⟩
    by_cases w : v = now
    · exfalso
      subst w
      rw [← a3, hl] at hx
      cases hx
    · omega
  have J7 : rqJ 7 n f st nx pt J := by
    refine ⟨fun k hk' => ?_, j2, j3, j4⟩
    rw [j1 k hk', if_neg (by omega : k ≠ 7)]
    by_cases w : k = now % 7
    · rw [if_pos w, w, c1]
    · rw [if_neg w]
  refine ⟨hq, fun x hx w => ?_, ⟨pt 7, (Lb 7).length, st, nx, pt, Lb, I7, J7, rfl, rfl, fun v v1 v2 => ?_⟩, pt 7, (Lb 7).length, st, nx, pt, Lb, I7, J7, rfl, rfl, fun v v1 v2 => by omega⟩
  · obtain ⟨x1, x2, -⟩ := r4 x hx
    rw [w, hl] at x2
    cases x2
  · by_cases w : v = now + 7
    · subst w
      rw [show (now + 7) % 7 = now % 7 by omega]
      exact hl
    · exact k3 v (by omega) (by omega)
/-- a list is begun -/
theorem rq.begin {now n m t : Nat} {q : Option Nat} {Z : Nat → Prop} {f : Nat → Nat} {J : Nat → Nat → Int32} (Q : rq 7 now n q m t Z f J) : ∃ p k, J 69 (now % 7) = oN p ∧ (∀ x, p = some x → x < 60000 ∨ x < n) ∧ rq (now % 7) now n p k t Z f (j_up J 69 (now % 7) (-1)) ∧ (p = none → k = 0) ∧ (p ≠ none → now ≤ 9600) := by
  obtain ⟨st, nx, pt, Lb, ⟨r1, r2, r3, r4, r5⟩, ⟨j1, j2, j3, j4⟩, k1, k2, k3⟩ := Q
  have hk : now % 7 < 7 := Nat.mod_lt _ (by decide)
  have c1 := r1 _ hk
  have h69 := j1 _ hk
  rw [if_neg (by omega : now % 7 ≠ 7)] at h69
  refine ⟨pt (now % 7), (Lb (now % 7)).length, h69, fun x hx => ?_, ⟨st, nx, pt, Lb, ⟨r1, r2, r3, r4, r5⟩, ⟨fun k hk' => ?_, fun x hx => ?_, fun x hx => ?_, ?_⟩, rfl, rfl, k3⟩, fun hp => ?_, fun hp => ?_⟩
  · cases hl : Lb (now % 7) with
    | nil => rw [hl] at c1; rw [c1] at hx; cases hx
    | cons e0 l =>
      rw [hl] at c1
      have := c1.1
      rw [hx] at this
      injection this with this
      subst this
      exact Or.inr (r2 _ hk x (by rw [hl]; exact List.mem_cons_self)).1
  · rw [j_up_own]
    by_cases w : k = now % 7
    · rw [if_pos w, if_pos w]
      rfl
    · rw [if_neg w, if_neg w, j1 k hk', if_neg (by omega : k ≠ 7)]
  · rw [j_up_cell _ (by decide), j_up_cell _ (by decide)]
    exact j2 x hx
  · rw [j_up_cell _ (by decide)]
    exact j3 x hx
  · rw [j_up_cell _ (by decide)]
    exact j4
  · cases hl : Lb (now % 7) with
    | nil => rfl
    | cons e0 l =>
      rw [hl] at c1
      have := c1.1
      rw [hp] at this
      cases this
  · cases hl : Lb (now % 7) with
    | nil => rw [hl] at c1; exact absurd c1 hp
    | cons e0 l =>
      obtain ⟨a1, a2, v, a3, a4, a5, a6, a7⟩ := r2 _ hk e0 (by rw [hl]; exact List.mem_cons_self)
      omega
theorem rq.zero {c now n m t : Nat} {q : Option Nat} {Z : Nat → Prop} {f : Nat → Nat} {J : Nat → Nat → Int32} (Q : rq c now n q m t Z f J) : rq c now n q m 0 Z f J := by
  obtain ⟨st, nx, pt, Lb, h1, h2, h3, h4, h5⟩ := Q
  exact ⟨st, nx, pt, Lb, h1, h2, h3, h4, fun v _ _ => by omega⟩
theorem prc_r (hto : to < 1600) : ∀ (m : Nat) {now n : Nat} (Z : Nat → Prop) (f : Nat → Nat) (J : Nat → Nat → Int32) (q : Option Nat) (l2 : Int32) (o5 : Option Value), now ≤ 9608 → rq (now % 7) now n q m 0 Z f J → djk 1000000 B to now Z f → brR B J → n ≤ 6 + 6 * cnN Z 9600 → ∃ Z' f' n' J' o', rq (now % 7) now n' none 0 0 Z' f' J' ∧ djk 1000000 B to now Z' f' ∧ n' ≤ 6 + 6 * cnN Z' 9600 ∧ fP J J' ∧ jv (e + 2) 351 119 [some (.ref 0), some (.int (nI to)), some (.int l2), some (.int (nI now)), some (.int (oN q)), o5] [] (shR, J, L, pR) = jv (e + 2) 351 79 [some (.ref 0), some (.int (nI to)), some (.int l2), some (.int (nI (now + 1))), some (.int (-1)), o'] [] (shR, J', L, pR) := by
  intro m
  induction m with
  | zero =>
    intro now n Z f J q l2 o5 hnow Q D hb hn
    have := Q.none_left.1
    subst this
    refine ⟨Z, f, n, J, o5, Q, D, hn, fP.rfl' J, ?_⟩
    rw [B351_119, if_pos oN_none, nI_1]
    rfl
  | succ m ih =>
    intro now n Z f J q l2 o5 hnow Q D hb hn
    obtain ⟨e0, x, q', rfl, a1, a2, a3, a4, a5, a6, a7⟩ := Q.pop (fun x hx => (D.2.2.1 x hx.1 hx.2.1 hx.2.2).1)
    have le := cnN_le Z 9600
    have hx := Q.left x a2
    have j0 : j_in (nI e0) 60000 = true := j_in_nI (by omega) (by decide)
    rw [B351_119, if_neg (oN_some (by omega)), show oN (some e0) = nI e0 from rfl, if_pos j0, if_pos j0, nI_clamp (n := e0) (by omega), a3, a4, if_pos (j_in_nI a2 (by decide)), nI_clamp (n := x) (by omega), hx.1]
    by_cases w : f x = now
    · rw [if_pos (by rw [w])]
      obtain ⟨nz, Q2⟩ := a7 w
      have ex : x = 6 * (x / 6) + x % 6 := by omega
      have cn : cnN (fun y => y = x ∨ Z y) 9600 = cnN Z 9600 + 1 := cnN_add a2 (Or.inl rfl) nz (fun y hy => ⟨fun z => z.resolve_left hy, Or.inr⟩)
      have le2 := cnN_le (fun y => y = x ∨ Z y) 9600
      have low : now ≤ 9594 := by
        have := D.1.lowM (c := x / 6) (s := x % 6) (by omega) (by omega) (by rw [← ex]; omega)
        rw [← ex] at this
        omega
      rw [ex] at nz Q2 w cn
      obtain ⟨f', n', J', b1, b2, b3, b4, b5⟩ := pay_r (e := e) (L := L) (B := B) (to := to) Q2 rfl D hb (by omega) (by omega) hto nz w low (by omega)
      rw [← ex] at b5
      rw [jgo_some rfl b5]
      dsimp only [Option.toList_none, List.nil_append]
      rw [B351_160]
      obtain ⟨Z2, f2, n2, J2, o2, c1, c2, c3, c4, c5⟩ := ih _ f' J' q' l2 (some (.int (nI x))) hnow b4 b3 (hb.fr b2) (by omega)
      exact ⟨Z2, f2, n2, J2, o2, c1, c2, c3, b2.trans c4, c5⟩
    · rw [if_neg (fun z => w ((nI_eq (by omega) (by omega)).mp z)), B351_160]
      exact ih Z f J q' l2 (some (.int (nI x))) hnow (a6 w) D hb hn
theorem pb_r (hto : to < 1600) : ∀ (r : Nat) (now n m t : Nat) (q : Option Nat) (Z : Nat → Prop) (f : Nat → Nat) (J : Nat → Nat → Int32) (o4 o5 : Option Value), rq 7 now n q m t Z f J → djk 1000000 B to now Z f → brR B J → n ≤ 6 + 6 * cnN Z 9600 → now + r = 9609 → now ≤ 9601 + t → t ≤ 7 → ∃ Z' f' J', tab 1000000 B to Z' f' ∧ (∀ c s, c < 1600 → s < 6 → f' (6 * c + s) < 1000000 → Z' (6 * c + s)) ∧ (∀ x, x < 9600 → J' 68 x = nI (f' x) ∧ f' x ≤ 1000000) ∧ fP J J' ∧ jv (e + 2) 351 79 [some (.ref 0), some (.int (nI to)), some (.int (nI t)), some (.int (nI now)), o4, o5] [] (shR, J, L, pR) = some (none, (shR, J', L, pR)) := by
  intro r
  induction r with
  | zero => intro now n m t q Z f J o4 o5 _ _ _ _ h1 h2 h3; omega
  | succ r ih =>
    intro now n m t q Z f J o4 o5 Q D hb hn h1 h2 h3
    rw [B351_79]
    by_cases w : t < 7
    · obtain ⟨p, k, b1, b2, b3, b4, b5⟩ := Q.begin
      have jk : j_in (nI (now % 7)) 7 = true := j_in_nI (Nat.mod_lt _ (by decide)) (by decide)
      have f1 : fP J (j_up J 69 (now % 7) (-1)) := ⟨fun c c1 c2 c3 c4 c5 => j_up_cell _ c3 _ _, fun g hg => by rw [j_up_cell _ (by decide)]⟩
      rw [if_pos (show nI t < 7 from nI_lt (b := 7) w (by decide)), if_neg (by decide), show nI now - nI now / 7 * 7 = nI (now % 7) from nI_mod (b := 7) (by omega) (by decide), if_pos jk, if_neg (by decide), if_pos jk, nI_clamp (n := now % 7) (by omega), b1]
      cases hp : p with
      | none =>
        have k0 := b4 hp
        subst k0
        obtain ⟨n1, n2, ⟨p', k', n3⟩, -⟩ := b3.none_left
        obtain ⟨Z', f', J', g1, g2, g3, g4, g5⟩ := ih (now + 1) n k' (t + 1) p' Z f _ (some (.int (oN none))) o5 n3 (D.next n2) (hb.fr f1) hn (by omega) (by omega) (by omega)
        refine ⟨Z', f', J', g1, g2, g3, f1.trans g4, ?_⟩
        rw [if_pos oN_none, B351_118, B351_119, if_pos oN_none, nI_1, nI_1]
        exact g5
      | some x =>
        have h9 := b5 (by rw [hp]; exact fun z => by cases z)
        have hx : x < 60000 := by
          have := cnN_le Z 9600
          rcases b2 x hp with z | z <;> omega
        subst hp
        obtain ⟨Z1, f1', n1, J1, o1, c1, c2, c3, c4, c5⟩ := prc_r (e := e) (L := L) (B := B) hto k (now := now) (n := n) Z f _ (some x) 0 o5 (by omega) b3.zero D (hb.fr f1) hn
        obtain ⟨m1, m2, -, ⟨p', k', m3⟩⟩ := c1.none_left
        obtain ⟨Z', f', J', g1, g2, g3, g4, g5⟩ := ih (now + 1) n1 k' 0 p' Z1 f1' J1 (some (.int (-1))) o1 m3 (c2.next m2) ((hb.fr f1).fr c4) c3 (by omega) (by omega) (by omega)
        refine ⟨Z', f', J', g1, g2, g3, (f1.trans c4).trans g4, ?_⟩
        rw [if_neg (oN_some (by omega)), B351_118]
        exact c5.trans g5
    · have t7 : t = 7 := by omega
      subst t7
      refine ⟨Z, f, J, D.1, fun c s hc hs hf => ?_, Q.left, fP.rfl' J, by rw [if_neg (by decide)]⟩
      refine Classical.byContradiction fun z => ?_
      obtain ⟨d1, d2⟩ := D.2.2.1 (6 * c + s) (by omega) hf z
      obtain ⟨st, nx, pt, Lb, ⟨r1, r2, r3, r4, r5⟩, -, -, -, k3⟩ := Q
      obtain ⟨x1, x2, -⟩ := r4 (6 * c + s) ⟨by omega, hf, z⟩
      rw [k3 _ (by omega) d2] at x2
      cases x2
/-- payBack() -/
theorem back_r {J : Nat → Nat → Int32} (hto : to < 1600) (hb : brR B J) : ∃ Z' f' J', tab 1000000 B to Z' f' ∧ (∀ c s, c < 1600 → s < 6 → f' (6 * c + s) < 1000000 → Z' (6 * c + s)) ∧ (∀ x, x < 9600 → J' 68 x = nI (f' x) ∧ f' x ≤ 1000000) ∧ fP J J' ∧ jv (e + 2) 351 0 [some (.ref 0), some (.int (nI to)), none, none, none, none] [] (shR, J, L, pR) = some (none, (shR, J', L, pR)) := by
  have k1 := j_run (fun i => jv (e + 2) 351 2 [some (.ref 0), some (.int (nI to)), some (.int (nI i)), none, none, none] [] (shR, va_up J 68 (j_fill (J 68) (fun _ => 1000000) i), L, pR)) 9600 (fun i hi => by
    rw [B351_2, if_pos (show nI i < 9600 from nI_lt (b := 9600) hi (by decide)), if_pos (j_in_nI hi (by decide)), nI_clamp (n := i) (by omega), nI_1, j_up_fill J 68 i (J 68) (fun _ => 1000000)])
  rw [j_fill_zero, va_up_same] at k1
  have k2 := j_run (fun i => jv (e + 2) 351 26 [some (.ref 0), some (.int (nI to)), some (.int (nI i)), none, none, none] [] (shR, va_up (va_up J 68 (j_fill (J 68) (fun _ => 1000000) 9600)) 69 (j_fill (va_up J 68 (j_fill (J 68) (fun _ => 1000000) 9600) 69) (fun _ => -1) i), L, pR)) 7 (fun i hi => by
    rw [B351_26, if_pos (show nI i < 7 from nI_lt (b := 7) hi (by decide)), if_pos (j_in_nI hi (by decide)), nI_clamp (n := i) (by omega), nI_1, j_up_fill _ 69 i _ (fun _ => -1)])
  rw [j_fill_zero, va_up_same] at k2
  generalize hJ0 : j_up (va_up (va_up J 68 (j_fill (J 68) (fun _ => 1000000) 9600)) 69 (j_fill (va_up J 68 (j_fill (J 68) (fun _ => 1000000) 9600) 69) (fun _ => -1) 7)) 0 119 0 = J0
  have f0 : fP J J0 := by
    subst hJ0
    refine ⟨fun c b1 b2 b3 b4 b5 => ?_, fun g hg => ?_⟩
    · rw [j_up_cell _ b1, va_up_ne _ _ b3, va_up_ne _ _ b2]
    · rw [j_up_own, if_neg hg, va_up_ne _ _ (by decide), va_up_ne _ _ (by decide)]
  have Q0 : rq 7 0 0 none 0 0 (fun _ => False) (fun _ => 1000000) J0 := by
    refine ⟨fun _ => 0, fun _ => none, fun _ => none, fun _ => [], ⟨fun _ _ => rfl, fun _ _ _ z => (by cases z), fun _ _ => List.nodup_nil, fun x hx => absurd hx.2.1 (Nat.lt_irrefl _), fun _ _ _ z => (by cases z)⟩, ⟨fun k hk => ?_, fun _ z => absurd z (Nat.not_lt_zero _), fun x hx => ⟨?_, Nat.le_refl _⟩, ?_⟩, rfl, rfl, fun _ _ _ => rfl⟩
    · subst hJ0
      rw [j_up_cell _ (by decide), va_up_self, if_neg (by omega : k ≠ 7)]
      exact if_pos hk
    · subst hJ0
      rw [j_up_cell _ (by decide), va_up_ne _ _ (by decide), va_up_self]
      exact if_pos hx
    · subst hJ0
      exact j_up_self _ _ _ _
  obtain ⟨⟨n1, J1⟩, ⟨a1, a2, a3⟩, a4⟩ := j_runP (α := Nat × (Nat → Nat → Int32)) (fun j t => jv (e + 2) 351 52 [some (.ref 0), some (.int (nI to)), some (.int (nI j)), none, none, none] [] (shR, t.2, L, pR)) (fun j t => t.1 ≤ j ∧ fP J0 t.2 ∧ rq 7 0 t.1 none 0 0 (fun _ => False) (z0f 1000000 to j) t.2) 6 (fun j hj t ht => by
    obtain ⟨n1, J1⟩ := t
    obtain ⟨b1, b2, b3⟩ := ht
    dsimp only at b1 b2 b3 ⊢
    have e1 : 6 * nI to + nI j = nI (6 * to + j) := by rw [show 6 * nI to = nI (6 * to) from nI_mul 6 to, nI_add]
    obtain ⟨n2, J2, c1, c2, c3, c4⟩ := lower_r (e := e + 1) (L := L) (y := 6 * to + j) (v := 0) b3 (by omega) (by omega) (by omega) (by omega) (by omega) (by decide) (fun z w => w.elim)
    refine ⟨(n2, J2), ⟨by dsimp only; omega, b2.trans c2, c3.cg (fun _ => Iff.rfl) (fun z => z0_succ hj z)⟩, ?_⟩
    · try dsimp only
      rw [B351_52, if_pos (show nI j < 6 from nI_lt (b := 6) hj (by decide)), e1, jgo_some rfl c4]
      dsimp only [Option.toList_none, List.nil_append]
      rw [B351_69, nI_1]) (0, J0) ⟨Nat.le_refl _, fP.rfl' _, Q0.cg (fun _ => Iff.rfl) (fun z => (z0_zero _ _ z).symm)⟩
  dsimp only at a1 a2 a3 a4
  have D : djk 1000000 B to 0 (fun _ => False) (z0f 1000000 to 6) := djk_init B (by decide) (fun x hx => z0_six _ _ x) hto
  obtain ⟨Z', f', J', g1, g2, g3, g4, g5⟩ := pb_r (e := e) (L := L) (B := B) hto 9609 0 n1 0 0 none _ _ J1 none none a3 D ((hb.fr f0).fr a2) (by omega) rfl (by omega) (by omega)
  refine ⟨Z', f', J', g1, g2, g3, (f0.trans a2).trans g4, ?_⟩
  rw [B351_0]
  refine (show _ = _ from k1).trans ?_
  rw [B351_2, if_neg (by decide)]
  refine (show _ = _ from k2).trans ?_
  rw [B351_26, if_neg (by decide), hJ0]
  refine (show _ = _ from a4).trans ?_
  rw [B351_52, if_neg (by decide)]
  exact g5
end LEADI
