/-! PIPES: one pipe, in both -/
section LEADQ
variable {d e : Nat} {L L' : Nat → Nat → Int64} {pa pb pu pw : Option Nat}
def tkR (Tk : Nat → Prop) (J : Nat → Nat → Int32) : Prop := ∀ c, c < 1600 → (J 66 c = 0 ↔ ¬ Tk c)
theorem tkR.cg {B B' : Nat → Prop} {J : Nat → Nat → Int32} (h : tkR B J) (hB : ∀ c, c < 1600 → (B c ↔ B' c)) : tkR B' J := fun c hc => by rw [h c hc, hB c hc]
/-- one pipe's way in both -/
def wr1 (p : Nat) (I J : Nat → Nat → Int32) : Prop := (I 97 p = J 62 p) ∧ (¬ J 62 p < 0 → I 98 p = J 63 p ∧ I 99 p = J 64 p ∧ ∃ n : Nat, n ≤ 1600 ∧ J 63 p = nI n ∧ ∀ k, k < n → I 100 (p * 1600 + k) = J 65 (1600 * p + k))
def frLc (p : Nat) (I I' : Nat → Nat → Int32) : Prop := (∀ c, c ≠ 96 → c ≠ 97 → c ≠ 98 → c ≠ 99 → c ≠ 100 → c ≠ 101 → c ≠ 103 → c ≠ 104 → c ≠ 105 → c ≠ 106 → I' c = I c) ∧ (∀ g, g ≠ 12 → I' 96 g = I 96 g) ∧ (∀ q, q ≠ p → I' 97 q = I 97 q ∧ I' 98 q = I 98 q ∧ I' 99 q = I 99 q) ∧ ∀ x, x < 1600 * p ∨ 1600 * p + 1600 ≤ x → I' 100 x = I 100 x
def frLr (p : Nat) (J J' : Nat → Nat → Int32) : Prop := (∀ c, c ≠ 0 → c ≠ 62 → c ≠ 63 → c ≠ 64 → c ≠ 65 → c ≠ 66 → c ≠ 68 → c ≠ 69 → c ≠ 70 → c ≠ 71 → J' c = J c) ∧ (∀ g, g ≠ 119 → J' 0 g = J 0 g) ∧ (∀ q, q ≠ p → J' 62 q = J 62 q ∧ J' 63 q = J 63 q ∧ J' 64 q = J 64 q) ∧ ∀ x, x < 1600 * p ∨ 1600 * p + 1600 ≤ x → J' 65 x = J 65 x
theorem fQ.lc {p : Nat} {I I' : Nat → Nat → Int32} (h : fQ I I') : frLc p I I' := ⟨fun c a1 _ _ _ _ _ a2 a3 a4 a5 => h.1 c a1 a2 a3 a4 a5, h.2, fun q _ => ⟨by rw [h.1 97 (by decide) (by decide) (by decide) (by decide) (by decide)], by rw [h.1 98 (by decide) (by decide) (by decide) (by decide) (by decide)], by rw [h.1 99 (by decide) (by decide) (by decide) (by decide) (by decide)]⟩, fun x _ => by rw [h.1 100 (by decide) (by decide) (by decide) (by decide) (by decide)]⟩
theorem fP.lr {p : Nat} {J J' : Nat → Nat → Int32} (h : fP J J') : frLr p J J' := ⟨fun c a1 _ _ _ _ _ a2 a3 a4 a5 => h.1 c a1 a2 a3 a4 a5, h.2, fun q _ => ⟨by rw [h.1 62 (by decide) (by decide) (by decide) (by decide) (by decide)], by rw [h.1 63 (by decide) (by decide) (by decide) (by decide) (by decide)], by rw [h.1 64 (by decide) (by decide) (by decide) (by decide) (by decide)]⟩, fun x _ => by rw [h.1 65 (by decide) (by decide) (by decide) (by decide) (by decide)]⟩
theorem frLc.trans {p : Nat} {I I' I'' : Nat → Nat → Int32} (h : frLc p I I') (h' : frLc p I' I'') : frLc p I I'' := ⟨fun c a1 a2 a3 a4 a5 a6 a7 a8 a9 a0 => (h'.1 c a1 a2 a3 a4 a5 a6 a7 a8 a9 a0).trans (h.1 c a1 a2 a3 a4 a5 a6 a7 a8 a9 a0), fun g hg => (h'.2.1 g hg).trans (h.2.1 g hg), fun q hq => ⟨(h'.2.2.1 q hq).1.trans (h.2.2.1 q hq).1, (h'.2.2.1 q hq).2.1.trans (h.2.2.1 q hq).2.1, (h'.2.2.1 q hq).2.2.trans (h.2.2.1 q hq).2.2⟩, fun x hx => (h'.2.2.2 x hx).trans (h.2.2.2 x hx)⟩
theorem frLr.trans {p : Nat} {J J' J'' : Nat → Nat → Int32} (h : frLr p J J') (h' : frLr p J' J'') : frLr p J J'' := ⟨fun c a1 a2 a3 a4 a5 a6 a7 a8 a9 a0 => (h'.1 c a1 a2 a3 a4 a5 a6 a7 a8 a9 a0).trans (h.1 c a1 a2 a3 a4 a5 a6 a7 a8 a9 a0), fun g hg => (h'.2.1 g hg).trans (h.2.1 g hg), fun q hq => ⟨(h'.2.2.1 q hq).1.trans (h.2.2.1 q hq).1, (h'.2.2.1 q hq).2.1.trans (h.2.2.1 q hq).2.1, (h'.2.2.1 q hq).2.2.trans (h.2.2.1 q hq).2.2⟩, fun x hx => (h'.2.2.2 x hx).trans (h.2.2.2 x hx)⟩
/-- the class walks a way that it knows -/
theorem go_c {I : Nat → Nat → Int32} {Tc : Nat → Prop} {M p fr to K : Nat} {f g : Nat → Nat} {ws : List Nat} (hp : p < 6) (hfr : fr < 1600) (hw : wyP M f g to fr none K ws) (hK : K ≤ 9603) (hws : ws.length ≤ 1600) (hL : K ≠ 0 → ∀ x, x < 9600 → I 103 x = nI (f x) ∧ f x ≤ 1048576) (hT : tkC Tc I) : ∃ I', frLc p I I' ∧ I' 97 p = nI K ∧ I' 98 p = nI ws.length ∧ I' 99 p = nI (bnN none ws) ∧ (∀ j, j < ws.length → I' 100 (1600 * p + j) = nI (ws.getD j 0)) ∧ tkC (fun x => Tc x ∨ x = fr ∨ vsP fr ws x) I' ∧ ∀ l3 o4, jv (d + 3) 84 34 [some (.ref 96), some (.int (nI p)), some (.int (nI fr)), some (.int l3), o4] [.int (nI K)] (shC, I, L, pX pa pb pu pw) = some (none, (shC, I', L, pX pa pb pu pw)) := by
  have jp : j_in (nI p) 6 = true := j_in_nI hp (by decide)
  have h0 : ∀ (I1 : Nat → Nat → Int32), I1 = j_up (j_up (j_up (j_up I 97 p (nI K)) 98 p 0) 99 p 0) 101 fr (vp_nar .byte 1) → ∃ I', frW I1 I' ∧ (∀ q, q ≠ p → I' 98 q = I1 98 q ∧ I' 99 q = I1 99 q) ∧ I' 98 p = nI (0 + ws.length) ∧ I' 99 p = nI (0 + bnN none ws) ∧ (∀ q, q < 1600 * p + 0 ∨ 1600 * p + 0 + ws.length ≤ q → I' 100 q = I1 100 q) ∧ (∀ j, j < ws.length → I' 100 (1600 * p + 0 + j) = nI (ws.getD j 0)) ∧ (∀ x, x < 1600 → (I' 101 x = 0 ↔ I1 101 x = 0 ∧ ¬ vsP fr ws x)) ∧ jv (d + 2) 90 34 [some (.ref 96), some (.int (nI p)), some (.int (nI fr)), some (.int (nI K)), some (.int (nI fr)), some (.int (oN none)), some (.int (nI K)), some (.int (nI 0)), none] [] (shC, I1, L, pX pa pb pu pw) = some (none, (shC, I', L, pX pa pb pu pw)) := by
    intro I1 e1
    by_cases k0 : K = 0
    · have w0 : ws = [] := by
        have := wyP_le hw
        cases ws with
        | nil => rfl
        | cons s l => rw [List.length_cons] at this; omega
      subst w0
      refine ⟨I1, fun _ _ _ _ _ => rfl, fun _ _ => ⟨rfl, rfl⟩, ?_, ?_, fun _ _ => rfl, fun j hj => absurd hj (Nat.not_lt_zero _), fun x _ => ⟨fun z => ⟨z, fun w => w⟩, fun z => z.1⟩, ?_⟩
      · rw [e1, j_up_cell _ (by decide), j_up_cell _ (by decide), j_up_self]; rfl
      · rw [e1, j_up_cell _ (by decide), j_up_self]; rfl
      · rw [k0, B90_34, if_neg (show ¬ (0 : Int32) < nI 0 by decide), ite_self, B90_159]
    · exact wlk_c hp (nI fr) (nI K) ws fr K 0 0 none I1 none hw hfr (fun l z => by cases z) hK (by omega) (Nat.le_refl _) (fun x hx => by
        rw [e1, j_up_cell _ (by decide), j_up_cell _ (by decide), j_up_cell _ (by decide), j_up_cell _ (by decide)]
        exact hL k0 x hx) (by rw [e1, j_up_cell _ (by decide), j_up_cell _ (by decide), j_up_self]; rfl) (by rw [e1, j_up_cell _ (by decide), j_up_self]; rfl)
  obtain ⟨I', a1, a2, a3, a4, a5, a6, a7, a8⟩ := h0 _ rfl
  refine ⟨I', ⟨?_, ?_, ?_, ?_⟩, ?_, ?_, ?_, ?_, ?_, ?_⟩
  · intro c b1 b2 b3 b4 b5 b6 b7 b8 b9 b0
    rw [a1 c b3 b4 b5 b6, j_up_cell _ b6, j_up_cell _ b4, j_up_cell _ b3, j_up_cell _ b2]
  · intro g hg
    rw [a1 96 (by decide) (by decide) (by decide) (by decide), j_up_cell _ (by decide), j_up_cell _ (by decide), j_up_cell _ (by decide), j_up_cell _ (by decide)]
  · intro q hq
    refine ⟨?_, ?_, ?_⟩
    · rw [a1 97 (by decide) (by decide) (by decide) (by decide), j_up_cell _ (by decide), j_up_cell _ (by decide), j_up_cell _ (by decide), j_up_own, if_neg hq]
    · rw [(a2 q hq).1, j_up_cell _ (by decide), j_up_cell _ (by decide), j_up_own, if_neg hq, j_up_cell _ (by decide)]
    · rw [(a2 q hq).2, j_up_cell _ (by decide), j_up_own, if_neg hq, j_up_cell _ (by decide), j_up_cell _ (by decide)]
  · intro x hx
    rw [a5 x (by omega), j_up_cell _ (by decide), j_up_cell _ (by decide), j_up_cell _ (by decide), j_up_cell _ (by decide)]
  · rw [a1 97 (by decide) (by decide) (by decide) (by decide), j_up_cell _ (by decide), j_up_cell _ (by decide), j_up_cell _ (by decide), j_up_self]
  · rw [a3, Nat.zero_add]
  · rw [a4, Nat.zero_add]
  · intro j hj
    exact a6 j hj
  · intro x hx
    rw [a7 x hx, j_up_own]
    by_cases q : x = fr
    · rw [if_pos q]
      constructor
      · intro z; exact absurd z.1 (by decide)
      · intro z; exact absurd (Or.inr (Or.inl q)) z
    · rw [if_neg q, j_up_cell _ (by decide), j_up_cell _ (by decide), j_up_cell _ (by decide), hT x hx]
      constructor
      · rintro ⟨z1, z2⟩ (z | z | z)
        · exact z1 z
        · exact q z
        · exact z2 z
      · intro z
        exact ⟨fun w => z (Or.inl w), fun w => z (Or.inr (Or.inr w))⟩
  · intro l3 o4
    have run : jv (d + 2) 90 0 [some (.ref 96), some (.int (nI p)), some (.int (nI fr)), some (.int (nI K)), none, none, none, none, none] [] (shC, j_up I 97 p (nI K), L, pX pa pb pu pw) = some (none, (shC, I', L, pX pa pb pu pw)) := by
      rw [B90_0, if_pos jp, if_pos jp, if_pos (j_in_nI hfr (by decide)), nI_clamp (n := p) (by omega), nI_clamp (n := fr) (by omega)]
      exact a8
    rw [B84_34, if_pos (show nI K < 1048576 from nI_lt (b := 1048576) (by omega) (by decide)), if_pos jp, nI_clamp (n := p) (by omega), jgo_some rfl run]
    dsimp only [Option.toList_none, List.nil_append]
    rw [B84_60]
/-- so does the reference -/
theorem go_r {J : Nat → Nat → Int32} {Tw B : Nat → Prop} {p fr to K : Nat} {f g : Nat → Nat} {ws : List Nat} (hp : p < 6) (hfr : fr < 1600) (hto : to < 1600) (hw : wyP 1000000 f g to fr none K ws) (hK : K ≤ 9603) (hws : ws.length ≤ 1600) (hbr : brR B J) (hnb : ∀ n s, n < 1600 → s < 6 → g (6 * n + s) < 1000000 → ¬ B n ∧ g (6 * n + s) ≤ 9600) (hL : ∀ x, x < 9600 → J 68 x = nI (g x) ∧ g x ≤ 1000000) (hT : tkR Tw J) (l2 : Int32) (o10 o11 o12 o13 o14 : Option Value) : ∃ J', frLr p J J' ∧ J' 62 p = nI K ∧ J' 63 p = nI ws.length ∧ J' 64 p = nI (bnN none ws) ∧ (∀ j, j < ws.length → J' 65 (1600 * p + j) = nI (ws.getD j 0)) ∧ tkR (fun x => Tw x ∨ x = fr ∨ vsP fr ws x) J' ∧ jv (e + 1) 349 120 [some (.ref 0), some (.int (nI p)), some (.int l2), some (.int (nI fr)), some (.int (nI to)), some (.int (nI fr)), some (.int (-1)), some (.int 0), some (.int 0), some (.int 0), o10, o11, o12, o13, o14] [] (shR, J, L', pR) = some (none, (shR, J', L', pR)) := by
  have jp : j_in (nI p) 6 = true := j_in_nI hp (by decide)
  obtain ⟨J1, b', q10, q11, q12, q13, q14, a1, a2, a3, a4⟩ := wlk_r (e := e) (L := L') (B := B) hp l2 (nI fr) hto ws fr K 0 0 0 none J o10 o11 o12 o13 o14 hw hfr (fun l z => by cases z) hK (by omega) (by omega) (Nat.le_refl _) hbr hnb hL
  obtain ⟨J', b1, b2, b3⟩ := mrk_r (e := e) (L := L') (N := ws.length) hp hws l2 (nI fr) (nI to) b' (nI (0 + K)) (nI (0 + bnN none ws)) ws fr 0 (j_up (j_up (j_up (j_up J1 62 p (nI (0 + K))) 63 p (nI (0 + ws.length))) 64 p (nI (0 + bnN none ws))) 66 fr (vp_nar .boolean 1)) q11 q12 q13 q14 hw.pt hfr (Nat.zero_add _) (fun j hj => by
    rw [j_up_cell _ (by decide), j_up_cell _ (by decide), j_up_cell _ (by decide), j_up_cell _ (by decide)]
    exact a3 j hj)
  refine ⟨J', ⟨?_, ?_, ?_, ?_⟩, ?_, ?_, ?_, ?_, ?_, (show _ = _ from a4).trans ?_⟩
  · intro c c1 c2 c3 c4 c5 c6 c7 c8 c9 c0
    rw [b1 c c6, j_up_cell _ c6, j_up_cell _ c4, j_up_cell _ c3, j_up_cell _ c2, a1 c c5]
  · intro g hg
    rw [b1 0 (by decide), j_up_cell _ (by decide), j_up_cell _ (by decide), j_up_cell _ (by decide), j_up_cell _ (by decide), a1 0 (by decide)]
  · intro q hq
    refine ⟨?_, ?_, ?_⟩
    · rw [b1 62 (by decide), j_up_cell _ (by decide), j_up_cell _ (by decide), j_up_cell _ (by decide), j_up_own, if_neg hq, a1 62 (by decide)]
    · rw [b1 63 (by decide), j_up_cell _ (by decide), j_up_cell _ (by decide), j_up_own, if_neg hq, j_up_cell _ (by decide), a1 63 (by decide)]
    · rw [b1 64 (by decide), j_up_cell _ (by decide), j_up_own, if_neg hq, j_up_cell _ (by decide), j_up_cell _ (by decide), a1 64 (by decide)]
  · intro x hx
    rw [b1 65 (by decide), j_up_cell _ (by decide), j_up_cell _ (by decide), j_up_cell _ (by decide), j_up_cell _ (by decide)]
    exact a2 x (by omega)
  · rw [b1 62 (by decide), j_up_cell _ (by decide), j_up_cell _ (by decide), j_up_cell _ (by decide), j_up_self, Nat.zero_add]
  · rw [b1 63 (by decide), j_up_cell _ (by decide), j_up_cell _ (by decide), j_up_self, Nat.zero_add]
  · rw [b1 64 (by decide), j_up_cell _ (by decide), j_up_self, Nat.zero_add]
  · intro j hj
    rw [b1 65 (by decide), j_up_cell _ (by decide), j_up_cell _ (by decide), j_up_cell _ (by decide), j_up_cell _ (by decide)]
    exact a3 j hj
  · intro x hx
    rw [b2 x hx, j_up_own]
    by_cases q : x = fr
    · rw [if_pos q]
      constructor
      · intro z; exact absurd z.1 (by decide)
      · intro z; exact absurd (Or.inr (Or.inl q)) z
    · rw [if_neg q, j_up_cell _ (by decide), j_up_cell _ (by decide), j_up_cell _ (by decide), a1 66 (by decide), hT x hx]
      constructor
      · rintro ⟨z1, z2⟩ (z | z | z)
        · exact z1 z
        · exact q z
        · exact z2 z
      · intro z
        exact ⟨fun w => z (Or.inl w), fun w => z (Or.inr (Or.inr w))⟩
  · rw [B349_120, if_pos rfl, if_pos jp, if_pos jp, if_pos jp, if_pos (j_in_nI hfr (by decide)), nI_clamp (n := p) (by omega), nI_clamp (n := fr) (by omega)]
    simp only [Nat.zero_add] at b3 ⊢
    exact b3
/-- a pipe's values in both -/
def pvC (pv : Nat → Nat → Nat) (I : Nat → Nat → Int32) : Prop := ∀ p, p < 6 → ∀ j, j < 8 → I 2 (796 + j + p * 8) = nI (pv p j)
def pvR (pv : Nat → Nat → Nat) (J : Nat → Nat → Int32) : Prop := ∀ p, p < 6 → ∀ j, j < 8 → J 6 (796 + j + p * 8) = nI (pv p j)
def pvOk (pv : Nat → Nat → Nat) : Prop := ∀ p, p < 6 → pv p 0 < 2 ∧ pv p 1 < 20 ∧ pv p 2 < 10 ∧ pv p 3 < 8 ∧ pv p 4 < 20 ∧ pv p 5 < 10 ∧ pv p 6 < 8 ∧ pv p 7 < 2
def frN' (pv : Nat → Nat → Nat) (p : Nat) : Nat := pv p 1 + 20 * pv p 2 + 200 * pv p 3
def toN' (pv : Nat → Nat → Nat) (p : Nat) : Nat := pv p 4 + 20 * pv p 5 + 200 * pv p 6
/-- leadOne() beside lead(int) -/
theorem one_sim {I J : Nat → Nat → Int32} {B Tc Tw : Nat → Prop} {pv : Nat → Nat → Nat} {p : Nat} (hp : p < 6) (hpv : pvOk pv) (hvR : pvR pv J) (hr : rCst J) (bC : brC B I) (bR : brR B J) (tC : tkC Tc I) (tR : tkR Tw J) (h97 : I 97 p = -1) (h62 : J 62 p = -1) : ∃ (V : Nat → Prop) (I' J' : Nat → Nat → Int32), tkC (fun x => Tc x ∨ V x) I' ∧ tkR (fun x => Tw x ∨ V x) J' ∧ wr1 p I' J' ∧ frLc p I I' ∧ frLr p J J' ∧ jv (d + 3) 84 0 [some (.ref 96), some (.int (nI p)), some (.int (nI (frN' pv p))), some (.int (nI (toN' pv p))), none] [] (shC, I, L, pX pa pb pu pw) = some (none, (shC, I', L, pX pa pb pu pw)) ∧ jv (e + 3) 349 0 [some (.ref 0), some (.int (nI p)), none, none, none, none, none, none, none, none, none, none, none, none, none] [] (shR, J, L', pR) = some (none, (shR, J', L', pR)) := by
  obtain ⟨v0, v1, v2, v3, v4, v5, v6, v7⟩ := hpv p hp
  have hfr : frN' pv p < 1600 := by unfold frN'; omega
  have hto : toN' pv p < 1600 := by unfold toN'; omega
  have q1 : J 6 (797 + p * 8) = nI (pv p 1) := hvR p hp 1 (by decide)
  have q2 : J 6 (798 + p * 8) = nI (pv p 2) := hvR p hp 2 (by decide)
  have q3 : J 6 (799 + p * 8) = nI (pv p 3) := hvR p hp 3 (by decide)
  have q4 : J 6 (800 + p * 8) = nI (pv p 4) := hvR p hp 4 (by decide)
  have q5 : J 6 (801 + p * 8) = nI (pv p 5) := hvR p hp 5 (by decide)
  have q6 : J 6 (802 + p * 8) = nI (pv p 6) := hvR p hp 6 (by decide)
  have ea : ∀ k, nI (796 + p * 8) + nI k = nI (796 + k + p * 8) := fun k => by rw [nI_add, show 796 + p * 8 + k = 796 + k + p * 8 by omega]
  have jin : ∀ k, k < 8 → j_in (nI (796 + k + p * 8)) 1189 = true := fun k hk => j_in_nI (by omega) (by decide)
  have efr : nI (pv p 1) + 20 * nI (pv p 2) + 200 * nI (pv p 3) = nI (frN' pv p) := by
    rw [show 20 * nI (pv p 2) = nI (20 * pv p 2) from nI_mul 20 _, show 200 * nI (pv p 3) = nI (200 * pv p 3) from nI_mul 200 _, nI_add, nI_add]
    rfl
  have eto : nI (pv p 4) + 20 * nI (pv p 5) + 200 * nI (pv p 6) = nI (toN' pv p) := by
    rw [show 20 * nI (pv p 5) = nI (20 * pv p 5) from nI_mul 20 _, show 200 * nI (pv p 6) = nI (200 * pv p 6) from nI_mul 200 _, nI_add, nI_add]
    rfl
  have jfr : j_in (nI (frN' pv p)) 1600 = true := j_in_nI hfr (by decide)
  have jto : j_in (nI (toN' pv p)) 1600 = true := j_in_nI hto (by decide)
  generalize frN' pv p = fr at hfr efr jfr ⊢
  generalize toN' pv p = to at hto eto jto ⊢
  have hR : jv (e + 3) 349 0 [some (.ref 0), some (.int (nI p)), none, none, none, none, none, none, none, none, none, none, none, none, none] [] (shR, J, L', pR) = if J 67 fr = 0 then (if J 67 to = 0 then jgo jTT jMM (e + 3) 351 [.ref 0, .int (nI to)] (shR, J, L', pR) (fun v S => jv (e + 3) 349 105 [some (.ref 0), some (.int (nI p)), some (.int (nI (796 + p * 8))), some (.int (nI fr)), some (.int (nI to)), none, none, none, none, none, none, none, none, none, none] (v.toList ++ []) S) else some (none, (shR, J, L', pR))) else some (none, (shR, J, L', pR)) := by
    rw [B349_0, g_at_9_0 hr]
    dsimp only [Option.toList_some, List.cons_append, List.nil_append]
    rw [B349_8]
    rw [show nI (796 + p * 8) + 1 = nI (797 + p * 8) from ea 1, show nI (796 + p * 8) + 2 = nI (798 + p * 8) from ea 2, show nI (796 + p * 8) + 3 = nI (799 + p * 8) from ea 3, show nI (796 + p * 8) + 4 = nI (800 + p * 8) from ea 4, show nI (796 + p * 8) + 5 = nI (801 + p * 8) from ea 5, show nI (796 + p * 8) + 6 = nI (802 + p * 8) from ea 6]
    rw [if_pos (jin 1 (by decide)), if_pos (jin 2 (by decide)), if_pos (jin 3 (by decide)), if_pos (jin 4 (by decide)), if_pos (jin 5 (by decide)), if_pos (jin 6 (by decide)), nI_clamp (n := 797 + p * 8) (by omega), nI_clamp (n := 798 + p * 8) (by omega), nI_clamp (n := 799 + p * 8) (by omega), nI_clamp (n := 800 + p * 8) (by omega), nI_clamp (n := 801 + p * 8) (by omega), nI_clamp (n := 802 + p * 8) (by omega), q1, q2, q3, q4, q5, q6, efr, eto, if_pos jfr, nI_clamp (n := fr) (by omega), if_pos jto, nI_clamp (n := to) (by omega), B349_98]
  have hC : jv (d + 3) 84 0 [some (.ref 96), some (.int (nI p)), some (.int (nI fr)), some (.int (nI to)), none] [] (shC, I, L, pX pa pb pu pw) = if I 102 fr = 0 then (if I 102 to = 0 then (if nI fr = nI to then jv (d + 3) 84 34 [some (.ref 96), some (.int (nI p)), some (.int (nI fr)), some (.int (nI to)), none] [.int 0] (shC, I, L, pX pa pb pu pw) else jgo jTT jMM (d + 3) 87 [.ref 96, .int (nI fr), .int (nI to)] (shC, I, L, pX pa pb pu pw) (fun v S => jv (d + 3) 84 34 [some (.ref 96), some (.int (nI p)), some (.int (nI fr)), some (.int (nI to)), none] (v.toList ++ []) S)) else some (none, (shC, I, L, pX pa pb pu pw))) else some (none, (shC, I, L, pX pa pb pu pw)) := by
    rw [B84_0, if_pos jfr, nI_clamp (n := fr) (by omega), if_pos jto, nI_clamp (n := to) (by omega), B84_18]
  have nothing : ∀ I' J', fQ I I' → fP J J' → (∀ c, c < 1600 → (I' 101 c = 0 ↔ I 101 c = 0)) → tkC (fun x => Tc x ∨ False) I' ∧ tkR (fun x => Tw x ∨ False) J' ∧ wr1 p I' J' ∧ frLc p I I' ∧ frLr p J J' := by
    intro I' J' w1 w2 w3
    have w4 : J' 62 p = -1 := by rw [w2.1 62 (by decide) (by decide) (by decide) (by decide) (by decide), h62]
    refine ⟨fun c hc => ?_, fun c hc => ?_, ⟨?_, fun z => ?_⟩, w1.lc, w2.lr⟩
    · rw [w3 c hc, tC c hc]
      exact ⟨fun z w => w.elim z id, fun z w => z (Or.inl w)⟩
    · rw [w2.1 66 (by decide) (by decide) (by decide) (by decide) (by decide), tR c hc]
      exact ⟨fun z w => w.elim z id, fun z w => z (Or.inl w)⟩
    · rw [w1.1 97 (by decide) (by decide) (by decide) (by decide) (by decide), h97, w4]
    · rw [w4] at z
      exact absurd (by decide) z
  rw [hR, hC]
  by_cases b1 : B fr
  · obtain ⟨n1, n2, n3, n4, n5⟩ := nothing I J (fQ.rfl' I) (fP.rfl' J) (fun _ _ => Iff.rfl)
    exact ⟨_, I, J, n1, n2, n3, n4, n5, by rw [if_neg (fun z => (bC fr hfr).mp z b1)], by rw [if_neg (fun z => (bR fr hfr).mp z b1)]⟩
  by_cases b2 : B to
  · obtain ⟨n1, n2, n3, n4, n5⟩ := nothing I J (fQ.rfl' I) (fP.rfl' J) (fun _ _ => Iff.rfl)
    exact ⟨_, I, J, n1, n2, n3, n4, n5, by rw [if_pos ((bC fr hfr).mpr b1), if_neg (fun z => (bC to hto).mp z b2)], by rw [if_pos ((bR fr hfr).mpr b1), if_neg (fun z => (bR to hto).mp z b2)]⟩
  rw [if_pos ((bC fr hfr).mpr b1), if_pos ((bC to hto).mpr b2), if_pos ((bR fr hfr).mpr b1), if_pos ((bR to hto).mpr b2)]
  obtain ⟨Z', g, J1, t1, t2, t3, t4, t5⟩ := back_r (e := e) (L := L') (B := B) (J := J) hto bR
  have hnb : ∀ n s, n < 1600 → s < 6 → g (6 * n + s) < 1000000 → ¬ B n ∧ g (6 * n + s) ≤ 9600 := by
    intro n s hn hs h
    refine ⟨?_, t1.most hn hs h⟩
    by_cases w : n = to
    · rw [w]; exact b2
    · exact (t1.some n s hn hs w h).1
  have tR1 : tkR Tw J1 := fun c hc => by
    rw [t4.1 66 (by decide) (by decide) (by decide) (by decide) (by decide)]
    exact tR c hc
  rw [jgo_some (k' := 351) rfl t5]
  dsimp only [Option.toList_none, List.nil_append]
  rw [B349_105]
  -- both walk along ws
  have both : ∀ (I1 : Nat → Nat → Int32) (f : Nat → Nat) (K : Nat) (ws : List Nat), fQ I I1 → wyP 1000000 f g to fr none K ws → K ≤ 9603 → ws.length ≤ 1600 → (K ≠ 0 → ∀ x, x < 9600 → I1 103 x = nI (f x) ∧ f x ≤ 1048576) → ∃ (V : Nat → Prop) (I' J' : Nat → Nat → Int32), tkC (fun x => Tc x ∨ V x) I' ∧ tkR (fun x => Tw x ∨ V x) J' ∧ wr1 p I' J' ∧ frLc p I I' ∧ frLr p J J' ∧ (∀ l3 o4, jv (d + 3) 84 34 [some (.ref 96), some (.int (nI p)), some (.int (nI fr)), some (.int l3), o4] [.int (nI K)] (shC, I1, L, pX pa pb pu pw) = some (none, (shC, I', L, pX pa pb pu pw))) ∧ jv (e + 3) 349 120 [some (.ref 0), some (.int (nI p)), some (.int (nI (796 + p * 8))), some (.int (nI fr)), some (.int (nI to)), some (.int (nI fr)), some (.int (-1)), some (.int 0), some (.int 0), some (.int 0), none, none, none, none, none] [] (shR, J1, L', pR) = some (none, (shR, J', L', pR)) := by
    intro I1 f K ws w1 w2 w3 w4 w5
    obtain ⟨I', c1, c2, c3, c4, c5, c6, c7⟩ := go_c (d := d) (L := L) (pa := pa) (pb := pb) (pu := pu) (pw := pw) (I := I1) (Tc := Tc) hp hfr w2 w3 w4 w5 (fun c hc => by
      rw [w1.1 101 (by decide) (by decide) (by decide) (by decide) (by decide)]
      exact tC c hc)
    obtain ⟨J', r1, r2, r3, r4, r5, r6, r7⟩ := go_r (e := e + 2) (L' := L') (B := B) (J := J1) (Tw := Tw) hp hfr hto w2 w3 w4 (bR.fr t4) hnb t3 tR1 (nI (796 + p * 8)) none none none none none
    refine ⟨fun x => x = fr ∨ vsP fr ws x, I', J', c6, r6, ⟨by rw [c2, r2], fun _ => ⟨by rw [c3, r3], by rw [c4, r4], ws.length, w4, r3, fun k hk => ?_⟩⟩, w1.lc.trans c1, t4.lr.trans r1, c7, r7⟩
    rw [show p * 1600 + k = 1600 * p + k by omega, c5 k hk, r5 k hk]
  by_cases w : fr = to
  · obtain ⟨V, I', J', m1, m2, m3, m4, m5, m6, m7⟩ := both I (fun _ => 0) 0 [] (fQ.rfl' I) ⟨w, rfl⟩ (by decide) (by decide) (fun z => absurd rfl z)
    refine ⟨V, I', J', m1, m2, m3, m4, m5, ?_, m7⟩
    rw [if_pos (by rw [w])]
    exact m6 _ _
  · rw [if_neg (fun z => w ((nI_eq (by omega) (by omega)).mp z))]
    obtain ⟨Z, f, K, I1, ⟨s1, s2, s3, s4⟩, s5, s6⟩ := search_c (d := d) (L := L) (pa := pa) (pb := pb) (pu := pu) (pw := pw) (I := I) b1 hfr hto bC
    rw [jgo_some (k' := 87) rfl s6]
    dsimp only [Option.toList_some, List.cons_append, List.nil_append]
    rcases way_first s1 t1 (by decide) (by decide) t2 s3 hfr w s2 with ⟨k1, k2⟩ | ⟨k0, k1, k2, ws, k3, k4⟩
    · obtain ⟨n1, n2, n3, n4, n5⟩ := nothing I1 J1 s5 t4 (fun c _ => by rw [s5.1 101 (by decide) (by decide) (by decide) (by decide) (by decide)])
      refine ⟨_, I1, J1, n1, n2, n3, n4, n5, ?_, ?_⟩
      · rw [k1, B84_34, if_neg (by decide)]
      · obtain ⟨best, w', q13, q14, x1, x2⟩ := scn_r (e := e + 2) (L := L') (B := B) (g := g) (J := J1) (c := fr) (b := none) (nI p) (nI (796 + p * 8)) (nI fr) (nI to) 0 0 0 hfr (fun l z => by cases z) (bR.fr t4) hnb t3 none none
        have hw' : w' = none := by
          rcases x1 with ⟨y1, -, -⟩ | ⟨s, n, -, -, y3, y4, -⟩
          · exact y1
          · exact absurd y4 (k2 s n y3)
        subst hw'
        rw [B349_120, if_neg (fun z => w ((nI_eq (by omega) (by omega)).mp z))]
        refine (show _ = _ from x2).trans ?_
        rw [B349_138, if_neg (by decide), if_pos oN_none]
    · obtain ⟨V, I', J', m1, m2, m3, m4, m5, m6, m7⟩ := both I1 f K ws s5 k3 k2 k4 (fun _ => s4)
      exact ⟨V, I', J', m1, m2, m3, m4, m5, m6 _ _, m7⟩
end LEADQ
