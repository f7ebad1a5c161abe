/-! PIPES: the reference's walk -/
section LEADL
variable {e : Nat} {L : Nat → Nat → Int64} {f g : Nat → Nat} {to : Nat} {B : Nat → Prop}
theorem py_r {J : Nat → Nat → Int32} {s : Nat} {b : Option Nat} (hs : s < 6) (hb : ∀ l, b = some l → l < 6) : jv e 350 0 [some (.int (nI s)), some (.int (oN b))] [] (shR, J, L, pR) = some (some (.int (nI (pyN b s))), (shR, J, L, pR)) := by
  cases b with
  | none => exact pri_0 hs
  | some l => exact pri_r hs (hb l rfl)
/-- the best step so far -/
def scP (g : Nat → Nat) (c : Nat) (b : Option Nat) (j best : Nat) (w : Option Nat) : Prop := (w = none ∧ best = 1000000 ∧ ∀ s n, s < j → stp c s n → ¬ g (6 * n + s) < 1000000) ∨ ∃ s n, w = some s ∧ s < j ∧ stp c s n ∧ g (6 * n + s) < 1000000 ∧ best = g (6 * n + s) + pyN b s ∧ (∀ s' n', s' < j → stp c s' n' → g (6 * n' + s') < 1000000 → best ≤ g (6 * n' + s') + pyN b s') ∧ ∀ s' n', s' < s → stp c s' n' → g (6 * n' + s') < 1000000 → best < g (6 * n' + s') + pyN b s'
/-- nothing new with the step j -/
theorem scP.same {c j best : Nat} {b w : Option Nat} (h : scP g c b j best w) (hn : ∀ n, stp c j n → ¬ g (6 * n + j) < 1000000) : scP g c b (j + 1) best w := by
  have new : ∀ s n, s < j + 1 → stp c s n → g (6 * n + s) < 1000000 → s < j := by
    intro s n h1 h2 h3
    by_cases q : s = j
    · subst q; exact absurd h3 (hn n h2)
    · omega
  rcases h with ⟨h1, h2, h3⟩ | ⟨s, n, h1, h2, h3, h4, h5, h6, h7⟩
  · exact Or.inl ⟨h1, h2, fun s n a1 a2 a3 => h3 s n (new s n a1 a2 a3) a2 a3⟩
  · exact Or.inr ⟨s, n, h1, by omega, h3, h4, h5, fun s' n' a1 a2 a3 => h6 s' n' (new s' n' a1 a2 a3) a2 a3, h7⟩
theorem scP.more {c j n best : Nat} {b w : Option Nat} (h : scP g c b j best w) (h1 : stp c j n) (hg : g (6 * n + j) ≤ 9600) : scP g c b (j + 1) (if g (6 * n + j) + pyN b j < best then g (6 * n + j) + pyN b j else best) (if g (6 * n + j) + pyN b j < best then some j else w) := by
  have p2 := py_two b j
  have un : ∀ s' n', s' < j + 1 → stp c s' n' → s' < j ∨ (s' = j ∧ n' = n) := by
    intro s' n' a1 a2
    by_cases q : s' = j
    · subst q; exact Or.inr ⟨rfl, stp_fn a2 h1⟩
    · exact Or.inl (by omega)
  by_cases q : g (6 * n + j) + pyN b j < best
  · rw [if_pos q, if_pos q]
    refine Or.inr ⟨j, n, rfl, by omega, h1, by omega, rfl, fun s' n' a1 a2 a3 => ?_, fun s' n' a1 a2 a3 => ?_⟩
    · rcases un s' n' a1 a2 with z | ⟨rfl, rfl⟩
      · rcases h with ⟨-, -, h3⟩ | ⟨s, m, -, -, -, -, -, h6, -⟩
        · exact absurd a3 (h3 s' n' z a2)
        · have := h6 s' n' z a2 a3
          omega
      · omega
    · rcases h with ⟨-, -, h3⟩ | ⟨s, m, -, -, -, -, -, h6, -⟩
      · exact absurd a3 (h3 s' n' a1 a2)
      · have := h6 s' n' a1 a2 a3
        omega
  · rw [if_neg q, if_neg q]
    rcases h with ⟨h2, h3, h4⟩ | ⟨s, m, h2, h3, h4, h5, h6, h7, h8⟩
    · omega
    · refine Or.inr ⟨s, m, h2, by omega, h4, h5, h6, fun s' n' a1 a2 a3 => ?_, h8⟩
      rcases un s' n' a1 a2 with z | ⟨rfl, rfl⟩
      · exact h7 s' n' z a2 a3
      · omega
theorem scP.end_ {c best D s n : Nat} {b w : Option Nat} (h : scP g c b 6 best w) (h1 : stp c s n) (h2 : g (6 * n + s) < 1000000) (h3 : g (6 * n + s) + pyN b s = D) (h5 : ∀ s' n', s' < s → stp c s' n' → g (6 * n' + s') + pyN b s' ≠ D) (h6 : ∀ s' n', stp c s' n' → g (6 * n' + s') < 1000000 → D ≤ g (6 * n' + s') + pyN b s') : best = D ∧ w = some s := by
  rcases h with ⟨-, -, a3⟩ | ⟨s', n', a1, a2, a3, a4, a5, a6, a7⟩
  · exact absurd h2 (a3 s n (stp_s h1) h1)
  · have b1 := a6 s n (stp_s h1) h1 h2
    have b2 := h6 s' n' a3 a4
    refine ⟨by omega, ?_⟩
    rw [a1]
    congr 1
    by_cases q : s' < s
    · exact absurd (by omega) (h5 s' n' q a3)
    · by_cases q2 : s < s'
      · have := a7 s n q2 h1 h2
        omega
      · omega
/-- the reference looks for its step -/
theorem scn_r {J : Nat → Nat → Int32} {c : Nat} {b : Option Nat} (l1 l2 l3 l4 l7 l8 l9 : Int32) (hc : c < 1600) (hb : ∀ l, b = some l → l < 6) (hbr : brR B J) (hnb : ∀ n s, n < 1600 → s < 6 → g (6 * n + s) < 1000000 → ¬ B n ∧ g (6 * n + s) ≤ 9600) (hL : ∀ x, x < 9600 → J 68 x = nI (g x) ∧ g x ≤ 1000000) (o13 o14 : Option Value) : ∃ best w o13' o14', scP g c b 6 best w ∧ jv (e + 1) 349 138 [some (.ref 0), some (.int l1), some (.int l2), some (.int l3), some (.int l4), some (.int (nI c)), some (.int (oN b)), some (.int l7), some (.int l8), some (.int l9), some (.int 1000000), some (.int (-1)), some (.int 0), o13, o14] [] (shR, J, L, pR) = jv (e + 1) 349 138 [some (.ref 0), some (.int l1), some (.int l2), some (.int l3), some (.int l4), some (.int (nI c)), some (.int (oN b)), some (.int l7), some (.int l8), some (.int l9), some (.int (nI best)), some (.int (oN w)), some (.int (nI 6)), o13', o14'] [] (shR, J, L, pR) := by
  obtain ⟨⟨best, w, o13', o14'⟩, ⟨a1, -⟩, a2⟩ := j_runP (α := Nat × Option Nat × Option Value × Option Value) (fun j t => jv (e + 1) 349 138 [some (.ref 0), some (.int l1), some (.int l2), some (.int l3), some (.int l4), some (.int (nI c)), some (.int (oN b)), some (.int l7), some (.int l8), some (.int l9), some (.int (nI t.1)), some (.int (oN t.2.1)), some (.int (nI j)), t.2.2.1, t.2.2.2] [] (shR, J, L, pR)) (fun j t => scP g c b j t.1 t.2.1 ∧ t.1 ≤ 1000000) 6 (fun j hj t ht => by
    obtain ⟨best, w, q13, q14⟩ := t
    obtain ⟨ht, hle⟩ := ht
    dsimp only at ht hle ⊢
    rw [B349_138, if_pos (show nI j < 6 from nI_lt (b := 6) hj (by decide)), jgo_some rfl (st_f hc hj none none none none)]
    dsimp only [Option.toList_some, List.cons_append, List.nil_append]
    rw [B349_153]
    cases h1 : nbO c j with
    | none =>
      rw [if_pos oN_none, B349_227, nI_1]
      refine ⟨(best, w, _, _), ⟨ht.same (fun n z => ?_), hle⟩, rfl⟩
      have := (nbO_iff hc hj).mpr z
      rw [h1] at this
      cases this
    | some n =>
      have h2 := (nbO_iff hc hj).mp h1
      have hn := stp_lt hc h2
      have un : ∀ m, stp c j m → m = n := fun m z => stp_fn z h2
      have e1 : 6 * nI n + nI j = nI (6 * n + j) := by rw [show 6 * nI n = nI (6 * n) from nI_mul 6 n, nI_add]
      have jn : j_in (nI (6 * n + j)) 9600 = true := j_in_nI (by omega) (by decide)
      have hl := hL (6 * n + j) (by omega)
      rw [if_neg (oN_some (by omega)), show oN (some n) = nI n from rfl, if_pos (j_in_nI hn (by decide)), nI_clamp (n := n) (by omega)]
      by_cases w1 : B n
      · rw [if_neg (fun z => (hbr n hn).mp z w1), B349_227, nI_1]
        exact ⟨(best, w, _, _), ⟨ht.same (fun m z z2 => by rw [un m z] at z2; exact (hnb n j hn hj z2).1 w1), hle⟩, rfl⟩
      · rw [if_pos ((hbr n hn).mpr w1), e1, if_pos jn, nI_clamp (n := 6 * n + j) (by omega), hl.1]
        by_cases w2 : g (6 * n + j) < 1000000
        · have hg := (hnb n j hn hj w2).2
          have p2 := py_two b j
          rw [if_pos (show nI (g (6 * n + j)) < 1000000 from nI_lt (b := 1000000) w2 (by decide)), jgo_some rfl (py_r hj hb)]
          dsimp only [Option.toList_some, List.cons_append, List.nil_append]
          rw [B349_196, e1, if_pos jn, nI_clamp (n := 6 * n + j) (by omega), hl.1, nI_add, Nat.add_comm (pyN b j)]
          have mo := ht.more h2 hg
          by_cases w3 : g (6 * n + j) + pyN b j < best
          · rw [if_pos w3, if_pos w3] at mo
            rw [if_pos (nI_lt w3 (by omega)), B349_227, nI_1]
            exact ⟨(_, some j, _, _), ⟨mo, by dsimp only; omega⟩, rfl⟩
          · rw [if_neg w3, if_neg w3] at mo
            rw [if_neg (nI_nlt (by omega) (by omega)), B349_227, nI_1]
            exact ⟨(best, w, _, _), ⟨mo, hle⟩, rfl⟩
        · rw [if_neg (show ¬ nI (g (6 * n + j)) < 1000000 from nI_nlt (b := 1000000) (by omega) (by omega)), B349_227, nI_1]
          exact ⟨(best, w, _, _), ⟨ht.same (fun m z z2 => by rw [un m z] at z2; exact w2 z2), hle⟩, rfl⟩) (1000000, none, o13, o14) ⟨Or.inl ⟨rfl, rfl, fun s n z => absurd z (Nat.not_lt_zero _)⟩, Nat.le_refl _⟩
  exact ⟨best, w, o13', o14', a1, a2⟩
/-- the reference walks -/
theorem wlk_r {p : Nat} (hp : p < 6) (l2 l3 : Int32) (hto : to < 1600) : ∀ (ws : List Nat) (c D k cst bd : Nat) (b : Option Nat) (J : Nat → Nat → Int32) (o10 o11 o12 o13 o14 : Option Value), wyP 1000000 f g to c b D ws → c < 1600 → (∀ l, b = some l → l < 6) → D ≤ 9603 → cst + D ≤ 9603 → k + ws.length ≤ 1600 → bd ≤ k → brR B J → (∀ n s, n < 1600 → s < 6 → g (6 * n + s) < 1000000 → ¬ B n ∧ g (6 * n + s) ≤ 9600) → (∀ x, x < 9600 → J 68 x = nI (g x) ∧ g x ≤ 1000000) → ∃ J' b' q10 q11 q12 q13 q14, (∀ c', c' ≠ 65 → J' c' = J c') ∧ (∀ q, q < 1600 * p + k ∨ 1600 * p + k + ws.length ≤ q → J' 65 q = J 65 q) ∧ (∀ j, j < ws.length → J' 65 (1600 * p + k + j) = nI (ws.getD j 0)) ∧ jv (e + 1) 349 120 [some (.ref 0), some (.int (nI p)), some (.int l2), some (.int l3), some (.int (nI to)), some (.int (nI c)), some (.int (oN b)), some (.int (nI k)), some (.int (nI cst)), some (.int (nI bd)), o10, o11, o12, o13, o14] [] (shR, J, L, pR) = jv (e + 1) 349 120 [some (.ref 0), some (.int (nI p)), some (.int l2), some (.int l3), some (.int (nI to)), some (.int (nI to)), some (.int b'), some (.int (nI (k + ws.length))), some (.int (nI (cst + D))), some (.int (nI (bd + bnN b ws))), q10, q11, q12, q13, q14] [] (shR, J', L, pR) := by
  intro ws
  induction ws with
  | nil =>
    intro c D k cst bd b J o10 o11 o12 o13 o14 h hc hb hD hcst hk hbd hbr hnb hL
    obtain ⟨rfl, rfl⟩ := h
    exact ⟨J, oN b, o10, o11, o12, o13, o14, fun _ _ => rfl, fun _ _ => rfl, fun j hj => absurd hj (Nat.not_lt_zero _), rfl⟩
  | cons s ws ih =>
    intro c D k cst bd b J o10 o11 o12 o13 o14 h hc hb hD hcst hk hbd hbr hnb hL
    obtain ⟨h0, n, h1, h2, h3, h4, h5, h6, h7, h8⟩ := h
    have hs := stp_s h1
    have hn := stp_lt hc h1
    have p2 := py_two b s
    rw [List.length_cons] at hk
    obtain ⟨best, w, q13, q14, a1, a2⟩ := scn_r (e := e) (L := L) (B := B) (g := g) (nI p) l2 l3 (nI to) (nI k) (nI cst) (nI bd) hc hb hbr hnb hL o13 o14
    obtain ⟨hbst, rfl⟩ := a1.end_ h1 h2 h3 h5 h6
    rw [hbst] at a2
    have e2 : 1600 * nI p + nI k = nI (1600 * p + k) := by rw [show 1600 * nI p = nI (1600 * p) from nI_mul 1600 p, nI_add]
    rw [B349_120, if_neg (fun z => h0 ((nI_eq (by omega) (by omega)).mp z)), a2, B349_138, if_neg (by decide), if_neg (oN_some (by omega)), e2, if_pos (j_in_nI (by omega) (by decide)), nI_clamp (n := 1600 * p + k) (by omega), nI_1, show oN (some s) = nI s from rfl, jgo_some rfl (py_r hs hb)]
    dsimp only [Option.toList_some, List.cons_append, List.nil_append]
    have mid : jv (e + 1) 349 266 [some (.ref 0), some (.int (nI p)), some (.int l2), some (.int l3), some (.int (nI to)), some (.int (nI c)), some (.int (oN b)), some (.int (nI (k + 1))), some (.int (nI cst)), some (.int (nI bd)), some (.int (nI D)), some (.int (nI s)), some (.int (nI 6)), q13, q14] [.int (nI (pyN b s)), .int (nI cst)] (shR, j_up J 65 (1600 * p + k) (nI s), L, pR) = jv (e + 1) 349 288 [some (.ref 0), some (.int (nI p)), some (.int l2), some (.int l3), some (.int (nI to)), some (.int (nI c)), some (.int (oN b)), some (.int (nI (k + 1))), some (.int (nI (cst + pyN b s))), some (.int (nI bd)), some (.int (nI D)), some (.int (nI s)), some (.int (nI 6)), q13, q14] [.int (nI (bn1 b s)), .int (nI bd)] (shR, j_up J 65 (1600 * p + k) (nI s), L, pR) := by
      rw [B349_266, nI_add]
      cases e3 : b with
      | none => rw [if_pos oN_none, B349_287]; rfl
      | some l =>
        have hl := hb l e3
        rw [if_neg (oN_some (by omega)), show oN (some l) = nI l from rfl]
        by_cases w : l = s
        · rw [if_pos ((nI_eq (by omega) (by omega)).mpr w.symm), B349_287]
          rw [show bn1 (some l) s = 0 from if_pos w]
          rfl
        · rw [if_neg (fun z => w ((nI_eq (by omega) (by omega)).mp z).symm)]
          rw [show bn1 (some l) s = 1 from if_neg w]
          rfl
    have hbe := bn1_le b s
    rw [mid, B349_288, nI_add, jgo_some rfl (st_f hc hs none none none none), (nbO_iff hc hs).mpr h1]
    dsimp only [Option.toList_some, List.cons_append, List.nil_append]
    rw [B349_299, show oN (some n) = nI n from rfl]
    generalize hbv : bn1 b s = bv at hbe ⊢
    obtain ⟨J', b', q10, q11, q12, r13, r14, c1, c2, c3, c4⟩ := ih n (g (6 * n + s)) (k + 1) (cst + pyN b s) (bd + bv) (some s) (j_up J 65 (1600 * p + k) (nI s)) (some (.int (nI D))) (some (.int (nI s))) (some (.int (nI 6))) q13 q14 h8 hn (fun l hl => by injection hl with hl; omega) (by omega) (by omega) (by omega) (by omega) (fun x hx => by rw [j_up_cell _ (by decide)]; exact hbr x hx) hnb (fun x hx => by rw [j_up_cell _ (by decide)]; exact hL x hx)
    refine ⟨J', b', q10, q11, q12, r13, r14, fun c' b1 => ?_, fun q hq => ?_, fun j hj => ?_, ?_⟩
    · rw [c1 c' b1, j_up_cell _ b1]
    · rw [List.length_cons] at hq
      rw [c2 q (by omega), j_up_own, if_neg (by omega)]
    · cases j with
      | zero => rw [c2 (1600 * p + k + 0) (by omega), j_up_own, if_pos (by omega)]; rfl
      | succ j =>
        rw [List.length_cons] at hj
        rw [show 1600 * p + k + (j + 1) = 1600 * p + (k + 1) + j by omega, c3 j (by omega)]
        rfl
    · rw [show oN (some s) = nI s from rfl] at c4
      rw [c4, List.length_cons, show k + 1 + ws.length = k + (ws.length + 1) by omega, show cst + pyN b s + g (6 * n + s) = cst + D by omega]
      show _ = jv (e + 1) 349 120 [some (.ref 0), some (.int (nI p)), some (.int l2), some (.int l3), some (.int (nI to)), some (.int (nI to)), some (.int b'), some (.int (nI (k + (ws.length + 1)))), some (.int (nI (cst + D))), some (.int (nI (bd + ((bn1 b s) + bnN (some s) ws)))), q10, q11, q12, r13, r14] [] (shR, J', L, pR)
      rw [hbv, Nat.add_assoc]
/-- a way that leads on -/
def ptP : Nat → List Nat → Prop
  | _, [] => True
  | c, s :: ws => ∃ n, stp c s n ∧ ptP n ws
theorem wyP.pt {M : Nat} : ∀ {ws : List Nat} {c : Nat} {b : Option Nat} {D : Nat}, wyP M f g to c b D ws → ptP c ws := by
  intro ws
  induction ws with
  | nil => intro _ _ _ _; trivial
  | cons s ws ih =>
    intro c b D h
    obtain ⟨-, n, h1, -, -, -, -, -, -, h8⟩ := h
    exact ⟨n, h1, ih h8⟩
/-- the reference takes the cells of the way -/
theorem mrk_r {p N : Nat} (hp : p < 6) (hN : N ≤ 1600) (l2 l3 l4 l6 l8 l9 : Int32) : ∀ (ws : List Nat) (c k : Nat) (J : Nat → Nat → Int32) (o11 o12 o13 o14 : Option Value), ptP c ws → c < 1600 → k + ws.length = N → (∀ j, j < ws.length → J 65 (1600 * p + k + j) = nI (ws.getD j 0)) → ∃ J', (∀ c', c' ≠ 66 → J' c' = J c') ∧ (∀ x, x < 1600 → (J' 66 x = 0 ↔ J 66 x = 0 ∧ ¬ vsP c ws x)) ∧ jv (e + 1) 349 346 [some (.ref 0), some (.int (nI p)), some (.int l2), some (.int l3), some (.int l4), some (.int (nI c)), some (.int l6), some (.int (nI N)), some (.int l8), some (.int l9), some (.int (nI k)), o11, o12, o13, o14] [] (shR, J, L, pR) = some (none, (shR, J', L, pR)) := by
  intro ws
  induction ws with
  | nil =>
    intro c k J o11 o12 o13 o14 h hc hk hw
    refine ⟨J, fun _ _ => rfl, fun x _ => ⟨fun z => ⟨z, fun w => w⟩, fun z => z.1⟩, ?_⟩
    rw [show N = k from hk.symm, B349_346, if_neg (nI_nlt (Nat.le_refl _) (by rw [List.length_nil] at hk; omega))]
  | cons s ws ih =>
    intro c k J o11 o12 o13 o14 h hc hk hw
    obtain ⟨n, h1, h8⟩ := h
    have hs := stp_s h1
    have hn := stp_lt hc h1
    rw [List.length_cons] at hk hw
    have e2 : 1600 * nI p + nI k = nI (1600 * p + k) := by rw [show 1600 * nI p = nI (1600 * p) from nI_mul 1600 p, nI_add]
    have w0 : J 65 (1600 * p + k) = nI s := hw 0 (by omega)
    rw [B349_346, if_pos (nI_lt (by omega) (by omega)), e2, if_pos (j_in_nI (by omega) (by decide)), nI_clamp (n := 1600 * p + k) (by omega), w0, jgo_some rfl (st_f hc hs none none none none), (nbO_iff hc hs).mpr h1]
    dsimp only [Option.toList_some, List.cons_append, List.nil_append]
    rw [B349_372, show oN (some n) = nI n from rfl, if_pos (j_in_nI hn (by decide)), nI_clamp (n := n) (by omega), nI_1]
    obtain ⟨J', a1, a2, a3⟩ := ih n (k + 1) (j_up J 66 n (vp_nar .boolean 1)) o11 o12 o13 o14 h8 hn (by omega) (fun j hj => by
      rw [j_up_cell _ (by decide), show 1600 * p + (k + 1) + j = 1600 * p + k + (j + 1) by omega, hw (j + 1) (by omega)]
      rfl)
    refine ⟨J', fun c' b1 => by rw [a1 c' b1, j_up_cell _ b1], fun x hx => ?_, a3⟩
    rw [a2 x hx, j_up_own]
    by_cases w : x = n
    · rw [if_pos w]
      constructor
      · intro z; exact absurd z.1 (by decide)
      · intro z; exact absurd ⟨n, h1, Or.inl w⟩ z.2
    · rw [if_neg w]
      constructor
      · rintro ⟨z1, z2⟩
        refine ⟨z1, ?_⟩
        rintro ⟨m, m1, m2⟩
        have := stp_fn m1 h1
        subst this
        exact m2.elim w z2
      · rintro ⟨z1, z2⟩
        exact ⟨z1, fun z => z2 ⟨n, h1, Or.inr z⟩⟩
end LEADL
