/-! PLATES: one piece in both -/
def nsR (w h p : Nat) (nr : Nat → Nat → Nat → Prop) (o : Nat → Nat → Nat → Nat) (m : Nat) (I J : Nat → Nat → Int32) (L : Nat → Nat → Int64) : Prop := barC nr L ∧ barR nr J ∧ ownC w h o I ∧ ownR o J ∧ (∀ s x y, o s x y ≤ 32) ∧ (∀ s x y, w ≤ x → o s x y = 0) ∧ (∀ s x y, h ≤ y → o s x y = 0) ∧ I 83 1 = nI p ∧ I 83 2 = nI m ∧ J 0 89 = nI m ∧ m ≤ p ∧ ∀ k, k < p → I 84 k = J 48 k ∧ I 85 k = J 49 k ∧ (¬ J 49 k < 0 → I 86 k = J 50 k ∧ I 87 k = J 51 k ∧ I 88 k = J 52 k)
def frK (I I' : Nat → Nat → Int32) : Prop := (∀ c, c ≠ 83 → c ≠ 84 → c ≠ 85 → c ≠ 86 → c ≠ 87 → c ≠ 88 → c ≠ 90 → I' c = I c) ∧ ∀ f, f ≠ 1 → f ≠ 2 → I' 83 f = I 83 f
section NESTJ
variable {d e : Nat} {pa pb pu pw : Option Nat} {w h W H : Nat} {v : Nat → Int32} {nr : Nat → Nat → Nat → Prop} {o : Nat → Nat → Nat → Nat}
theorem first_eq {pl : Nat → Nat → Prop} {T s y x t s' y' x' t' : Nat} (hw : w ≤ 64) (hh : h ≤ 48) (hT : T ≤ 4) (F : firstP w h nr pl W H T s y x t) (F' : firstP w h nr pl W H T s' y' x' t') : s = s' ∧ y = y' ∧ x = x' ∧ t = t' := by
  obtain ⟨a1, a2, a3, a4, a5, a6⟩ := F
  obtain ⟨b1, b2, b3, b4, b5, b6⟩ := F'
  have u1 := a6 s' y' x' t' b1 b2 b3 b4 b5
  have u2 := b6 s y x t a1 a2 a3 a4 a5
  unfold kyN at u1 u2
  omega
theorem fit_near {pl : Nat → Nat → Prop} {s y x t g s' x' y' t' : Nat} (h1 : fitP w h (nearS nr pl W H s x y t g) pl W H s' x' y' t') : fitP w h nr pl W H s' x' y' t' := fun i j hp => ⟨(h1 i j hp).1, (h1 i j hp).2.1, fun z => (h1 i j hp).2.2 (Or.inl z)⟩
theorem copy_sim {I J : Nat → Nat → Int32} {L L' : Nat → Nat → Int64} (G : plIn (plV v) W H) (hr : rCst J) {q p T N g m R i cn : Nat} (hq : q < 8) (hp : p < N) (hN : N ≤ 32) (hg : g < 4) (hi : i < cn) (hcn : cn ≤ 4) (hR : R ≤ 288) (h88 : J 0 88 = nI N) (hJ : J 48 p = nI q) (hvJ : ∀ j, j < 12 → J 6 (600 + q * 14 + j) = v j) (hTJ : T = if J 6 (600 + q * 14 + 13) = 1 then 4 else 1) (hc : I 2 (600 + q * 14 + 12) = nI cn) (f4 : J 6 4 = nI w) (f5 : J 6 5 = nI h) (hw : w ≤ 64) (hh : h ≤ 48) (e3 : I 83 3 = nI w) (e4 : I 83 4 = nI h) (e5 : I 83 5 = nI g) (S : shpC (plV v) W H I L) (hS : nsR w h p nr o m I J L) (hno : noneP w h nr (plV v) W H T R) (o6 : Option Value) : ∃ R' I' L1 J' nr' o' m', R' ≤ 288 ∧ shpC (plV v) W H I' L1 ∧ nsR w h (p + 1) nr' o' m' I' J' L1 ∧ noneP w h nr' (plV v) W H T R' ∧ frK I I' ∧ (∀ c, c ≠ 89 → L1 c = L c) ∧ frP p J J' ∧ (∃ z6 : Option Value, jv (d + 2) 116 25 [some (.ref 83), some (.ref 1), some (.int (nI q)), some (.int (nI T)), some (.int (nI R)), some (.int (nI i)), o6] [] (shC, I, L, pX pa pb pu pw) = jv (d + 2) 116 25 [some (.ref 83), some (.ref 1), some (.int (nI q)), some (.int (nI T)), some (.int (nI R')), some (.int (nI (i + 1))), z6] [] (shC, I', L1, pX pa pb pu pw)) ∧ jv (e + 4) 334 66 [some (.ref 0), some (.int (nI g)), some (.int (nI p))] [] (shR, J, L', pR) = jv (e + 4) 334 66 [some (.ref 0), some (.int (nI g)), some (.int (nI (p + 1)))] [] (shR, J', L', pR) := by
  obtain ⟨n1, n2, n3, n4, n5, n6, n7, n8, n9, n10, n11, n12⟩ := hS
  have t4 : T ≤ 4 := by rw [hTJ]; split <;> omega
  obtain ⟨J', fJ, kJ, cJ⟩ := step_r (e := e) (L' := L') G hr hq hp hN hg h88 n10 hJ hvJ n2 n4 f4 f5 hw hh hTJ
  have jp : j_in (nI p) 32 = true := j_in_nI (by omega) (by decide)
  generalize hI1 : j_up (j_up (j_up I 84 p (nI q)) 85 p (-1)) 83 1 (nI (p + 1)) = I1
  have w83 : ∀ f, I1 83 f = if f = 1 then nI (p + 1) else I 83 f := fun f => by rw [← hI1, j_up_own, j_up_cell _ (by decide), j_up_cell _ (by decide)]
  have w84 : ∀ k, I1 84 k = if k = p then nI q else I 84 k := fun k => by rw [← hI1, j_up_cell _ (by decide), j_up_cell _ (by decide), j_up_own]
  have w85 : ∀ k, I1 85 k = if k = p then -1 else I 85 k := fun k => by rw [← hI1, j_up_cell _ (by decide), j_up_own, j_up_cell _ (by decide)]
  have wo : ∀ c, c ≠ 83 → c ≠ 84 → c ≠ 85 → I1 c = I c := fun c a b z => by rw [← hI1, j_up_cell _ a, j_up_cell _ z, j_up_cell _ b]
  have s83 : j_up (j_up I 84 p (nI q)) 85 p (-1) 83 1 = nI p := by rw [j_up_cell _ (by decide), j_up_cell _ (by decide), n8]
  have st : jv (d + 2) 116 25 [some (.ref 83), some (.ref 1), some (.int (nI q)), some (.int (nI T)), some (.int (nI R)), some (.int (nI i)), o6] [] (shC, I, L, pX pa pb pu pw) = jv (d + 2) 116 80 [some (.ref 83), some (.ref 1), some (.int (nI q)), some (.int (nI T)), some (.int (nI R)), some (.int (nI i)), some (.int (nI p))] [] (shC, I1, L, pX pa pb pu pw) := by
    rw [B116_25, show (12 : Int32) = nI 12 from rfl, g_plt_c hq (by decide)]
    dsimp only [Option.toList_some, List.cons_append, List.nil_append]
    rw [hc, B116_36, if_pos (nI_lt hi (by omega)), n8, if_pos (show nI p < 32 from nI_lt (b := 32) (by omega) (by decide)), if_pos jp, if_pos jp, nI_clamp (n := p) (by omega), s83, nI_1 p, hI1]
  have S1 : shpC (plV v) W H I1 L := by
    unfold shpC
    rw [wo 92 (by decide) (by decide) (by decide), wo 93 (by decide) (by decide) (by decide)]
    exact S
  have O1 : ownC w h o I1 := by
    unfold ownC
    rw [wo 90 (by decide) (by decide) (by decide)]
    exact n3
  have old : ∀ k, k < p → J' 48 k = J 48 k ∧ J' 49 k = J 49 k ∧ J' 50 k = J 50 k ∧ J' 51 k = J 51 k ∧ J' 52 k = J 52 k := fun k hk => ⟨by rw [fJ.1 48 (by decide) (by decide) (by decide) (by decide) (by decide) (by decide) (by decide) (by decide) (by decide)], fJ.2.2 49 (by decide) (by decide) k (by omega), fJ.2.2 50 (by decide) (by decide) k (by omega), fJ.2.2 51 (by decide) (by decide) k (by omega), fJ.2.2 52 (by decide) (by decide) k (by omega)⟩
  have new48 : J' 48 p = nI q := by rw [fJ.1 48 (by decide) (by decide) (by decide) (by decide) (by decide) (by decide) (by decide) (by decide) (by decide), hJ]
  rcases piece_c (d := d) (pa := pa) (pb := pb) (pu := pu) (pw := pw) (q := q) (i := i) G S1 n1 O1 (by rw [w83, if_neg (by decide), e3]) (by rw [w83, if_neg (by decide), e4]) (by rw [w83, if_neg (by decide), e5]) hg hw hh (show p < 32 by omega) t4 (288 - R) R (by omega) hno with ⟨s, y, x, t, I', L1, a1, a2, a3, a4, a5, a6, a7, a8, a9⟩ | ⟨a1, a2⟩
  · rcases cJ with ⟨b1, -⟩ | ⟨s', y', x', t', b1, b2, b3, b4, b5, b6, b7, b8⟩
    · obtain ⟨c1, c2, c3, c4, c5, -⟩ := a1
      exact absurd c5 (b1 s y x t c1 c2 c3 c4 (by omega))
    · obtain ⟨rfl, rfl, rfl, rfl⟩ := first_eq hw hh t4 a1 b1
      obtain ⟨c1, c2, c3, c4, c5, c6⟩ := a1
      have at1 : ∀ c, c ≠ 83 → c ≠ 85 → c ≠ 86 → c ≠ 87 → c ≠ 88 → c ≠ 90 → I' c = I1 c := fun c z0 z1 z2 z3 z4 z5 => by rw [a3 c z5 z0, atI_o _ _ _ _ _ _ z1 z2 z3 z4]
      have v85 : ∀ k, I' 85 k = if k = p then nI s else I1 85 k := fun k => by rw [a3 85 (by decide) (by decide)]; unfold atI; rw [j_up_cell _ (by decide), j_up_cell _ (by decide), j_up_cell _ (by decide), j_up_own]
      have v86 : ∀ k, I' 86 k = if k = p then nI x else I1 86 k := fun k => by rw [a3 86 (by decide) (by decide)]; unfold atI; rw [j_up_cell _ (by decide), j_up_cell _ (by decide), j_up_own, j_up_cell _ (by decide)]
      have v87 : ∀ k, I' 87 k = if k = p then nI y else I1 87 k := fun k => by rw [a3 87 (by decide) (by decide)]; unfold atI; rw [j_up_cell _ (by decide), j_up_own, j_up_cell _ (by decide), j_up_cell _ (by decide)]
      have v88 : ∀ k, I' 88 k = if k = p then nI t else I1 88 k := fun k => by rw [a3 88 (by decide) (by decide)]; unfold atI; rw [j_up_own, j_up_cell _ (by decide), j_up_cell _ (by decide), j_up_cell _ (by decide)]
      have inS : ∀ s'' X Y, cellS (plV v) W H s x y t s'' X Y → X < w ∧ Y < h := fun s'' X Y z => by
        obtain ⟨-, i', j', z1, z2, z3⟩ := z
        have := c5 i' j' z1
        omega
      refine ⟨48 * s + y, I', L1, J', _, _, m + 1, by omega, ?_, ⟨a7, b7, a8, b8, fun s'' X Y => ?_, fun s'' X Y z => ?_, fun s'' X Y z => ?_, by rw [a4 1 (by decide), w83, if_pos rfl], by rw [a5, w83, if_neg (by decide), n9, nI_1 m], b6, by omega, fun k hk => ?_⟩, fun s'' y'' x'' t'' z1 z2 z3 z4 z5 z6 => a2 s'' y'' x'' t'' z1 z2 z3 z4 z5 (fit_near z6), ⟨fun c z0 z1 z2 z3 z4 z5 z6 => by rw [at1 c z0 z2 z3 z4 z5 z6, wo c z0 z1 z2], fun f z1 z2 => by rw [a4 f z2, w83, if_neg z1]⟩, a6, fJ, ⟨some (.int (nI p)), ?_⟩, kJ⟩
      · unfold shpC
        rw [at1 92 (by decide) (by decide) (by decide) (by decide) (by decide) (by decide), at1 93 (by decide) (by decide) (by decide) (by decide) (by decide) (by decide), a6 91 (by decide)]
        exact S1
      · by_cases z : cellS (plV v) W H s x y t s'' X Y
        · rw [layF_y z]; omega
        · rw [layF_n z]; exact n5 s'' X Y
      · rw [layF_n (fun u => by have := (inS s'' X Y u).1; omega)]
        exact n6 s'' X Y z
      · rw [layF_n (fun u => by have := (inS s'' X Y u).2; omega)]
        exact n7 s'' X Y z
      · rw [v85, v86, v87, v88, at1 84 (by decide) (by decide) (by decide) (by decide) (by decide) (by decide), w84]
        by_cases z : k = p
        · subst z
          rw [if_pos rfl, if_pos rfl, if_pos rfl, if_pos rfl, if_pos rfl, new48, b2, b3, b4, b5]
          exact ⟨rfl, rfl, fun _ => ⟨rfl, rfl, rfl⟩⟩
        · rw [if_neg z, if_neg z, if_neg z, if_neg z, if_neg z, w85, if_neg z, wo 86 (by decide) (by decide) (by decide), wo 87 (by decide) (by decide) (by decide), wo 88 (by decide) (by decide) (by decide)]
          obtain ⟨o1, o2, o3, o4, o5⟩ := old k (by omega)
          rw [o1, o2, o3, o4, o5]
          exact n12 k (by omega)
      · rw [st, a9, B116_127, nI_1 i]
  · rcases cJ with ⟨b1, b2, b3, b4, b5⟩ | ⟨s', y', x', t', b1, -⟩
    · refine ⟨288, I1, L, J', nr, o, m, Nat.le_refl _, S1, ⟨n1, b4, O1, b5, n5, n6, n7, by rw [w83, if_pos rfl], by rw [w83, if_neg (by decide), n9], b3, by omega, fun k hk => ?_⟩, a1, ⟨fun c z0 z1 z2 z3 z4 z5 z6 => wo c z0 z1 z2, fun f z1 z2 => by rw [w83, if_neg z1]⟩, fun _ _ => rfl, fJ, ⟨some (.int (nI p)), ?_⟩, kJ⟩
      · rw [w84, w85]
        by_cases z : k = p
        · subst z
          rw [if_pos rfl, if_pos rfl, new48, b2]
          exact ⟨rfl, rfl, fun u => absurd (by decide) u⟩
        · rw [if_neg z, if_neg z, wo 86 (by decide) (by decide) (by decide), wo 87 (by decide) (by decide) (by decide), wo 88 (by decide) (by decide) (by decide)]
          obtain ⟨o1, o2, o3, o4, o5⟩ := old k (by omega)
          rw [o1, o2, o3, o4, o5]
          exact n12 k (by omega)
      · rw [st, a2, B116_127, nI_1 i]
    · obtain ⟨c1, c2, c3, c4, c5, -⟩ := b1
      exact absurd c5 (a1 s' y' x' t' c1 c2 c3 c4 (by omega))
end NESTJ
