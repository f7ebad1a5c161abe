/-! PIPES: lower() of the reference and its lists -/
def chn (nx : Nat → Option Nat) : Option Nat → List Nat → Prop
  | o, [] => o = none
  | o, e :: l => o = some e ∧ chn nx (nx e) l
theorem chn_cg {nx nx' : Nat → Option Nat} : ∀ {l : List Nat} {o : Option Nat}, (∀ e ∈ l, nx' e = nx e) → chn nx o l → chn nx' o l := by
  intro l
  induction l with
  | nil => intro o _ h; exact h
  | cons e l ih =>
    intro o h h2
    refine ⟨h2.1, ?_⟩
    rw [h e List.mem_cons_self]
    exact ih (fun x hx => h x (List.mem_cons_of_mem _ hx)) h2.2
def rqI (now n : Nat) (Z : Nat → Prop) (f st : Nat → Nat) (nx pt : Nat → Option Nat) (Lb : Nat → List Nat) : Prop :=
  (∀ k, k < 7 → chn nx (pt k) (Lb k)) ∧
  (∀ k, k < 7 → ∀ e, e ∈ Lb k → e < n ∧ st e < 9600 ∧ ∃ v, v % 7 = k ∧ now ≤ v ∧ v ≤ now + 6 ∧ v ≤ 9600 ∧ f (st e) ≤ v) ∧
  (∀ k, k < 7 → ((Lb k).map st).Nodup) ∧
  (∀ x, wtN 1000000 Z f x → ∃ e, e ∈ Lb (f x % 7) ∧ st e = x) ∧
  ∀ k, k < 7 → ∀ e, e ∈ Lb k → Z (st e) → ¬ (f (st e) % 7 = k ∧ now ≤ f (st e))
def rqJ (c n : Nat) (f st : Nat → Nat) (nx pt : Nat → Option Nat) (J : Nat → Nat → Int32) : Prop := (∀ k, k < 7 → J 69 k = oN (if k = c then none else pt k)) ∧ (∀ e, e < n → J 70 e = nI (st e) ∧ J 71 e = oN (nx e)) ∧ (∀ x, x < 9600 → J 68 x = nI (f x) ∧ f x ≤ 1000000) ∧ J 0 119 = nI n
/-- the reference's lists: c is the one that is being read, q its next entry, m how many are left of it, t the empty ones -/
def rq (c now n : Nat) (q : Option Nat) (m t : Nat) (Z : Nat → Prop) (f : Nat → Nat) (J : Nat → Nat → Int32) : Prop := ∃ st nx pt Lb, rqI now n Z f st nx pt Lb ∧ rqJ c n f st nx pt J ∧ pt c = q ∧ (Lb c).length = m ∧ ∀ v, now + 7 ≤ v + t → v ≤ now + 6 → Lb (v % 7) = []
theorem rq.cg {c now n m t : Nat} {q : Option Nat} {Z Z' : Nat → Prop} {f f' : Nat → Nat} {J : Nat → Nat → Int32} (Q : rq c now n q m t Z f J) (h1 : ∀ z, Z z ↔ Z' z) (h2 : ∀ z, f z = f' z) : rq c now n q m t Z' f' J := by
  have e1 : Z = Z' := funext fun z => propext (h1 z)
  have e2 : f = f' := funext h2
  subst e1 e2
  exact Q
theorem rq.left {c now n m t : Nat} {q : Option Nat} {Z : Nat → Prop} {f : Nat → Nat} {J : Nat → Nat → Int32} (Q : rq c now n q m t Z f J) : ∀ x, x < 9600 → J 68 x = nI (f x) ∧ f x ≤ 1000000 := by
  obtain ⟨st, nx, pt, Lb, -, ⟨-, -, h, -⟩, -⟩ := Q
  exact h
def fP (J J' : Nat → Nat → Int32) : Prop := (∀ c, c ≠ 0 → c ≠ 68 → c ≠ 69 → c ≠ 70 → c ≠ 71 → J' c = J c) ∧ ∀ g, g ≠ 119 → J' 0 g = J 0 g
theorem fP.rfl' (J : Nat → Nat → Int32) : fP J J := ⟨fun _ _ _ _ _ _ => rfl, fun _ _ => rfl⟩
theorem fP.trans {J J' J'' : Nat → Nat → Int32} (h : fP J J') (h' : fP J' J'') : fP J J'' := ⟨fun c a1 a2 a3 a4 a5 => (h'.1 c a1 a2 a3 a4 a5).trans (h.1 c a1 a2 a3 a4 a5), fun g hg => (h'.2 g hg).trans (h.2 g hg)⟩
section LEADG
variable {e : Nat} {L : Nat → Nat → Int64} {J : Nat → Nat → Int32} {c now n m : Nat} {q : Option Nat} {Z : Nat → Prop} {f : Nat → Nat}
theorem lower_r {y v : Nat} (Q : rq c now n q m 0 Z f J) (hy : y < 9600) (hn : n < 60000) (hv : now ≤ v) (hv6 : v ≤ now + 6) (hv9 : v ≤ 9600) (hc : v % 7 ≠ c) (hZ : ∀ z, Z z → f z ≤ v) : ∃ n' J', n' ≤ n + 1 ∧ fP J J' ∧ rq c now n' q m 0 Z (upO f y (min (f y) v)) J' ∧ jv e 352 0 [some (.ref 0), some (.int (nI y)), some (.int (nI v))] [] (shR, J, L, pR) = some (none, (shR, J', L, pR)) := by
  obtain ⟨st, nx, pt, Lb, ⟨r1, r2, r3, r4, r5⟩, ⟨j1, j2, j3, j4⟩, k1, k2, k3⟩ := Q
  have jy : j_in (nI y) 9600 = true := j_in_nI hy (by decide)
  have jn : j_in (nI n) 60000 = true := j_in_nI hn (by decide)
  have hk : v % 7 < 7 := Nat.mod_lt _ (by decide)
  have jk : j_in (nI (v % 7)) 7 = true := j_in_nI hk (by decide)
  obtain ⟨e3, e4⟩ := j3 y hy
  rw [B352_0, if_pos jy, nI_clamp (n := y) (by omega), e3]
  by_cases lt : v < f y
  · have e0 : ∀ w, j_up J 68 y w 0 119 = nI n := fun w => by rw [j_up_cell _ (by decide), j4]
    rw [if_pos (nI_lt lt (by omega)), if_pos jy, e0, if_pos jn, if_neg (by decide), show nI v - nI v / 7 * 7 = nI (v % 7) from nI_mod (b := 7) (by omega) (by decide), if_pos jk, nI_clamp (n := n) (by omega), nI_clamp (n := v % 7) (by omega)]
    rw [j_up_cell _ (by decide : 0 ≠ 70), e0, if_pos jn, if_neg (by decide), if_pos jk, nI_clamp (n := n) (by omega)]
    rw [j_up_cell _ (by decide : 69 ≠ 70), j_up_cell J (by decide : 69 ≠ 68), j1 (v % 7) hk, if_neg hc]
    rw [j_up_cell _ (by decide : 0 ≠ 71), j_up_cell _ (by decide : 0 ≠ 70), e0, j_up_cell _ (by decide : 0 ≠ 69), j_up_cell _ (by decide : 0 ≠ 71), j_up_cell _ (by decide : 0 ≠ 70), e0, nI_1, B352_68]
    refine ⟨n + 1, _, Nat.le_refl _, ⟨fun c b1 b2 b3 b4 b5 => by rw [j_up_cell _ b1, j_up_cell _ b3, j_up_cell _ b5, j_up_cell _ b4, j_up_cell _ b2], fun g hg => by rw [j_up_own, if_neg hg, j_up_cell _ (by decide), j_up_cell _ (by decide), j_up_cell _ (by decide), j_up_cell _ (by decide)]⟩, ⟨upO st n y, upO nx n (pt (v % 7)), upO pt (v % 7) (some n), upO Lb (v % 7) (n :: Lb (v % 7)), ⟨?_, ?_, ?_, ?_, ?_⟩, ⟨?_, ?_, ?_, ?_⟩, ?_, ?_, ?_⟩, rfl⟩
    · intro k hk'
      by_cases z : k = v % 7
      · subst z
        rw [upO_s, upO_s]
        refine ⟨rfl, ?_⟩
        rw [upO_s]
        refine chn_cg (fun x hx => upO_n _ _ ?_) (r1 _ hk')
        have := (r2 _ hk' x hx).1
        omega
      · rw [upO_n _ _ z, upO_n _ _ z]
        refine chn_cg (fun x hx => upO_n _ _ ?_) (r1 _ hk')
        have := (r2 _ hk' x hx).1
        omega
    · intro k hk' x hx
      have old : x ∈ Lb k → x < n + 1 ∧ upO st n y x < 9600 ∧ ∃ w, w % 7 = k ∧ now ≤ w ∧ w ≤ now + 6 ∧ w ≤ 9600 ∧ upO f y (min (f y) v) (upO st n y x) ≤ w := by
        intro hx'
        obtain ⟨a1, a2, w, a3, a4, a5, a6, a7⟩ := r2 k hk' x hx'
        rw [upO_n st _ (by omega : x ≠ n)]
        refine ⟨by omega, a2, w, a3, a4, a5, a6, ?_⟩
        unfold upO
        split
        · rename_i z
          rw [z] at a7
          omega
        · exact a7
      by_cases z : k = v % 7
      · subst z
        rw [upO_s] at hx
        rcases List.mem_cons.mp hx with hx | hx
        · subst hx
          rw [upO_s]
          exact ⟨by omega, hy, v, rfl, hv, hv6, hv9, by rw [upO_s]; omega⟩
        · exact old hx
      · rw [upO_n _ _ z] at hx
        exact old hx
    · intro k hk'
      have old : (Lb k).map (upO st n y) = (Lb k).map st := List.map_congr_left (fun x hx => upO_n _ _ (by have := (r2 k hk' x hx).1; omega))
      by_cases z : k = v % 7
      · subst z
        rw [upO_s, List.map_cons, old, upO_s]
        refine List.nodup_cons.mpr ⟨fun hm => ?_, r3 _ hk'⟩
        obtain ⟨x, x1, x2⟩ := List.mem_map.mp hm
        obtain ⟨a1, a2, w, a3, a4, a5, a6, a7⟩ := r2 _ hk' x x1
        rw [x2] at a7
        omega
      · rw [upO_n _ _ z, old]
        exact r3 k hk'
    · intro x hx
      by_cases z : x = y
      · subst z
        rw [upO_s, Nat.min_eq_right (by omega), upO_s]
        exact ⟨n, List.mem_cons_self, upO_s _ _ _⟩
      · have hx' : wtN 1000000 Z f x := by
          obtain ⟨a1, a2, a3⟩ := hx
          rw [upO_n _ _ z] at a2
          exact ⟨a1, a2, a3⟩
        obtain ⟨x1, x2, x3⟩ := r4 x hx'
        rw [upO_n _ _ z]
        refine ⟨x1, ?_, by rw [upO_n _ _ (by have := (r2 _ (Nat.mod_lt _ (by decide)) x1 x2).1; omega)]; exact x3⟩
        unfold upO
        split
        · rename_i w
          rw [← w]
          exact List.mem_cons_of_mem _ x2
        · exact x2
    · intro k hk' x hx hz
      have yz : ¬ Z y := fun w => by have := hZ y w; omega
      have old : x ∈ Lb k → ¬ (upO f y (min (f y) v) (upO st n y x) % 7 = k ∧ now ≤ upO f y (min (f y) v) (upO st n y x)) := by
        intro hx'
        have xn : x ≠ n := by have := (r2 k hk' x hx').1; omega
        rw [upO_n st _ xn] at hz ⊢
        have hsy : st x ≠ y := fun w => yz (by rw [← w]; exact hz)
        rw [upO_n f _ hsy]
        exact r5 k hk' x hx' hz
      by_cases z : k = v % 7
      · subst z
        rw [upO_s] at hx
        rcases List.mem_cons.mp hx with hx | hx
        · subst hx
          rw [upO_s] at hz
          exact absurd hz yz
        · exact old hx
      · rw [upO_n _ _ z] at hx
        exact old hx
    · intro k hk'
      rw [j_up_cell _ (by decide), j_up_own]
      by_cases z : k = v % 7
      · rw [if_pos z, z, if_neg hc, upO_s]
        rfl
      · rw [if_neg z, upO_n _ _ z, j_up_cell _ (by decide), j_up_cell _ (by decide), j_up_cell _ (by decide)]
        exact j1 k hk'
    · intro x hx
      refine ⟨?_, ?_⟩
      · rw [j_up_cell _ (by decide), j_up_cell _ (by decide), j_up_cell _ (by decide), j_up_own, j_up_cell _ (by decide)]
        unfold upO
        by_cases z : x = n
        · rw [if_pos z, if_pos z]
        · rw [if_neg z, if_neg z]
          exact (j2 x (by omega)).1
      · rw [j_up_cell _ (by decide), j_up_cell _ (by decide), j_up_own, j_up_cell _ (by decide), j_up_cell _ (by decide)]
        unfold upO
        by_cases z : x = n
        · rw [if_pos z, if_pos z]
        · rw [if_neg z, if_neg z]
          exact (j2 x (by omega)).2
    · intro x hx
      rw [j_up_cell _ (by decide), j_up_cell _ (by decide), j_up_cell _ (by decide), j_up_cell _ (by decide), j_up_own]
      unfold upO
      by_cases z : x = y
      · rw [if_pos z, if_pos z, Nat.min_eq_right (by omega)]
        exact ⟨rfl, by omega⟩
      · rw [if_neg z, if_neg z]
        exact j3 x hx
    · exact j_up_self _ _ _ _
    · rw [upO_n _ _ (Ne.symm hc)]
      exact k1
    · rw [upO_n _ _ (Ne.symm hc)]
      exact k2
    · intro w w1 w2
      omega
  · rw [if_neg (nI_nlt (by omega) (by omega)), B352_68]
    refine ⟨n, J, by omega, fP.rfl' J, (rq.cg ⟨st, nx, pt, Lb, ⟨r1, r2, r3, r4, r5⟩, ⟨j1, j2, j3, j4⟩, k1, k2, k3⟩ (fun _ => Iff.rfl) (fun z => ?_) : rq c now n q m 0 Z _ J), rfl⟩
    by_cases w : z = y
    · subst w; rw [upO_s, Nat.min_eq_left (by omega)]
    · rw [upO_n _ _ w]
end LEADG
