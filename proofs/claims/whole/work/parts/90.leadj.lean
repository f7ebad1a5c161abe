/-! PIPES: the way that both take (no program here) -/
section LEADJ
/-- what a step costs behind another, or as the first -/
def pyN (b : Option Nat) (s : Nat) : Nat := match b with | none => csN s | some l => prN s l
theorem py_two (b : Option Nat) (s : Nat) : 2 ≤ pyN b s ∧ pyN b s ≤ 6 := by
  cases b with
  | none => have := cs_two s; show 2 ≤ csN s ∧ csN s ≤ 6; omega
  | some l => exact pr_two s l
/-- the way from a cell, by first steps of the least cost -/
def wyP (M : Nat) (f g : Nat → Nat) (to : Nat) : Nat → Option Nat → Nat → List Nat → Prop
  | c, _, D, [] => c = to ∧ D = 0
  | c, b, D, s :: ws => c ≠ to ∧ ∃ n, stp c s n ∧ g (6 * n + s) < M ∧ g (6 * n + s) + pyN b s = D ∧ f (6 * n + s) = g (6 * n + s) ∧ (∀ s' n', s' < s → stp c s' n' → g (6 * n' + s') + pyN b s' ≠ D) ∧ (∀ s' n', stp c s' n' → g (6 * n' + s') < M → D ≤ g (6 * n' + s') + pyN b s') ∧ (∀ s' n', stp c s' n' → (f (6 * n' + s') + pyN b s' = D ↔ g (6 * n' + s') + pyN b s' = D)) ∧ wyP M f g to n (some s) (g (6 * n + s)) ws
/-- the cells of a way behind its first -/
def vsP : Nat → List Nat → Nat → Prop
  | _, [], _ => False
  | c, s :: ws, x => ∃ n, stp c s n ∧ (x = n ∨ vsP n ws x)
/-- its bends -/
def bn1 (b : Option Nat) (s : Nat) : Nat := match b with | none => 0 | some l => if l = s then 0 else 1
theorem bn1_le (b : Option Nat) (s : Nat) : bn1 b s ≤ 1 := by
  cases b with
  | none => exact Nat.zero_le _
  | some l =>
    show (if l = s then 0 else 1) ≤ 1
    split <;> omega
def bnN : Option Nat → List Nat → Nat
  | _, [] => 0
  | b, s :: ws => bn1 b s + bnN (some s) ws
theorem wyP_le {M : Nat} {f g : Nat → Nat} {to : Nat} : ∀ {ws : List Nat} {c : Nat} {b : Option Nat} {D : Nat}, wyP M f g to c b D ws → 2 * ws.length ≤ D := by
  intro ws
  induction ws with
  | nil => intro c b D _; exact Nat.zero_le _
  | cons s ws ih =>
    intro c b D h
    obtain ⟨-, n, -, -, h2, -, -, -, -, h3⟩ := h
    have := ih h3
    have := py_two b s
    rw [List.length_cons]
    omega
/-- the first of the steps with a property -/
theorem fst_s {P : Nat → Prop} {N : Nat} : ∀ k, k < N → P k → ∃ j, j < N ∧ P j ∧ ∀ i, i < j → ¬ P i := by
  intro k
  induction k using Nat.strongRecOn with
  | ind k ih =>
    intro hk hp
    by_cases h : ∃ i, i < k ∧ P i
    · obtain ⟨i, h1, h2⟩ := h
      exact ih i h1 (by omega) h2
    · exact ⟨k, hk, hp, fun i hi hpi => h ⟨i, hi, hpi⟩⟩
section WAY
variable {M M' K : Nat} {B : Nat → Prop} {to : Nat} {Z Z' : Nat → Prop} {f g : Nat → Nat}
theorem way_ex (T : tab M B to Z f) (G : tab M' B to Z' g) (hM : 9600 < M') (hMf : 9600 < M) (hZ : ∀ c s, c < 1600 → s < 6 → g (6 * c + s) < M' → Z' (6 * c + s)) (hK : ∀ c s, c < 1600 → s < 6 → f (6 * c + s) < K → Z (6 * c + s)) : ∀ (D c l : Nat) (vis : List Nat), c < 1600 → l < 6 → g (6 * c + l) = D → D < M' → D < K → vis.Nodup → (∀ d ∈ vis, d < 1600) → (∀ d ∈ vis, d = c ∨ ∃ u, u < 6 ∧ D + 2 ≤ g (6 * d + u)) → ∃ ws, wyP M' f g to c (some l) D ws ∧ ws.length + vis.length ≤ 1600 := by
  intro D
  induction D using Nat.strongRecOn with
  | ind D ih =>
    intro c l vis hc hl hg hDM hDK v1 v2 v3
    have vl := nodup_len 1600 vis v1 v2
    by_cases e : c = to
    · refine ⟨[], ⟨e, ?_⟩, by simpa using vl⟩
      subst e
      rw [G.zero l hl] at hg
      omega
    · obtain ⟨m1, s0, n0, m2, m3, m4⟩ := tab_min G hZ hc hl e (by omega)
      obtain ⟨s, s1, ⟨n, s2, s3, s4⟩, s5⟩ := fst_s (P := fun s => ∃ n, stp c s n ∧ g (6 * n + s) < M' ∧ g (6 * n + s) + prN s l = g (6 * c + l)) s0 (stp_s m2) ⟨n0, m2, m3, m4⟩
      have p2 := pr_two s l
      have hn := stp_lt hc s2
      have vn : n ∉ vis := by
        intro hm
        rcases v3 n hm with z | ⟨u, u1, u2⟩
        · exact stp_ne s2 z
        · have := G.turn hn (stp_s s2) u1 (by omega)
          omega
      obtain ⟨ws, w1, w2⟩ := ih (g (6 * n + s)) (by omega) n s (n :: vis) hn (stp_s s2) rfl (by omega) (by omega) (List.nodup_cons.mpr ⟨vn, v1⟩) (fun d hd => by
        rcases List.mem_cons.mp hd with z | z
        · rw [z]; exact hn
        · exact v2 d z) (fun d hd => by
        rcases List.mem_cons.mp hd with z | z
        · exact Or.inl z
        · refine Or.inr ?_
          rcases v3 d z with y | ⟨u, u1, u2⟩
          · subst y; exact ⟨l, hl, by omega⟩
          · exact ⟨u, u1, by omega⟩)
      have st : ∀ s' n', stp c s' n' → (f (6 * n' + s') + prN s' l = g (6 * c + l) ↔ g (6 * n' + s') + prN s' l = g (6 * c + l)) := fun s' n' h => tab_step T G hM hMf hZ hK hc hl e (by omega) (by omega) h
      refine ⟨s :: ws, ⟨e, n, s2, s3, by rw [← hg]; exact s4, ?_, ?_, ?_, ?_, w1⟩, ?_⟩
      · have := (st s n s2).mpr s4
        omega
      · intro s' n' h1 h2 h3
        refine s5 s' h1 ⟨n', h2, ?_, by rw [hg]; exact h3⟩
        have := py_two (some l) s'
        omega
      · intro s' n' h1 h2
        rw [← hg]
        exact m1 s' n' h1 h2
      · intro s' n' h1
        rw [← hg]
        exact st s' n' h1
      · rw [List.length_cons] at w2 ⊢
        omega
theorem way_first (T : tab M B to Z f) (G : tab M' B to Z' g) (hM : 9603 < M') (hMf : 9603 < M) (hZ : ∀ c s, c < 1600 → s < 6 → g (6 * c + s) < M' → Z' (6 * c + s)) (hK : ∀ c s, c < 1600 → s < 6 → f (6 * c + s) < K → Z (6 * c + s)) {c : Nat} (hc : c < 1600) (e : c ≠ to) (hl : lstP M Z f c K) : (K = M ∧ ∀ s n, stp c s n → ¬ g (6 * n + s) < M') ∨ (0 < K ∧ K < M ∧ K ≤ 9603 ∧ ∃ ws, wyP M' f g to c none K ws ∧ ws.length ≤ 1600) := by
  obtain ⟨a1, a2⟩ := tab_first T G (by omega) hMf hZ hK hc hl
  rcases a2 with z | ⟨b1, b2, ⟨s0, n0, b3, b4, b5⟩, b6⟩
  · exact Or.inl z
  · refine Or.inr ⟨by have := cs_two s0; omega, b1, b2, ?_⟩
    obtain ⟨s, s1, ⟨n, s2, s3, s4⟩, s5⟩ := fst_s (P := fun s => ∃ n, stp c s n ∧ g (6 * n + s) < M' ∧ g (6 * n + s) + csN s = K) s0 (stp_s b3) ⟨n0, b3, b4, b5⟩
    have p2 := cs_two s
    have hn := stp_lt hc s2
    obtain ⟨ws, w1, w2⟩ := way_ex T G (by omega) (by omega) hZ hK (g (6 * n + s)) n s [n] hn (stp_s s2) rfl s3 (by omega) (by simp) (by simpa using hn) (by simp)
    refine ⟨s :: ws, ⟨e, n, s2, s3, s4, ?_, ?_, ?_, ?_, w1⟩, ?_⟩
    · have := (b6 s n s2).mpr s4
      omega
    · intro s' n' h1 h2 h3
      refine s5 s' h1 ⟨n', h2, ?_, h3⟩
      have := py_two none s'
      omega
    · intro s' n' h1 h2
      exact a1 s' n' h1 h2
    · intro s' n' h1
      exact b6 s' n' h1
    · simp at w2 ⊢
      omega
end WAY
end LEADJ
