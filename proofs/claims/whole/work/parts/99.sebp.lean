/-! SEA: the rounds in both -/
section SEBP
variable {d e : Nat} {I J : Nat → Nat → Int32} {L L' : Nat → Nat → Int64} {pa pb pu pw : Option Nat} {m : Nat → Int32} {o : Nat}
/-- how many spaces are open -/
def cntB (o : Nat) : Nat → Nat
  | 0 => 0
  | n + 1 => cntB o n + (if o.testBit n = true then 1 else 0)
theorem cntB_le (o : Nat) : ∀ n, cntB o n ≤ n := by
  intro n
  induction n with
  | zero => exact Nat.le_refl _
  | succ n ih => unfold cntB; split <;> omega
theorem cntB_mono (o k : Nat) : ∀ n, cntB o n ≤ cntB (o ||| k) n := by
  intro n
  induction n with
  | zero => exact Nat.le_refl _
  | succ n ih =>
    unfold cntB
    by_cases z : o.testBit n = true
    · rw [if_pos z, if_pos (by rw [Nat.testBit_or, z]; rfl)]; omega
    · rw [if_neg z]; split <;> omega
theorem cntB_lt {o k p : Nat} (h1 : k.testBit p = true) (h2 : o.testBit p = false) : ∀ n, p < n → cntB o n < cntB (o ||| k) n := by
  intro n
  induction n with
  | zero => intro h; omega
  | succ n ih =>
    intro hp
    have mo := cntB_mono o k n
    unfold cntB
    by_cases w : p = n
    · subst w
      rw [if_neg (by rw [h2]; decide), if_pos (by rw [Nat.testBit_or, h1, h2]; rfl)]
      omega
    · have := ih (by omega)
      by_cases z : o.testBit n = true
      · rw [if_pos z, if_pos (by rw [Nat.testBit_or, z]; rfl)]; omega
      · rw [if_neg z]; split <;> omega
theorem bit_ex {v : Int32} (h : v ≠ 0) : ∃ i, i < 32 ∧ v.toBitVec.getLsbD i = true := by
  apply Classical.byContradiction
  intro hn
  apply h
  rw [i_eq0]
  intro i hi
  cases hb : v.toBitVec.getLsbD i with
  | false => rfl
  | true => exact absurd ⟨i, hi, hb⟩ hn
theorem seaC.toJ {J' : Nat → Nat → Int32} (h : seaC m o I J L) (q : mQ m I J') : seaC m o I J' L := ⟨⟨q, h.1.2⟩, h.2⟩
theorem rfS.toI {I' : Nat → Nat → Int32} (h : rfS m o I J L) (q : mQ m I' J) : rfS m o I' J L := ⟨q, h.2⟩
theorem rfS.own (hS : rfS m o I J L) {q : Nat} (v : Int32) (hq : q ≠ 62) : rfS m o I (j_up J 0 q v) L := by
  obtain ⟨s1, s2, s3, s4, ⟨g, s5, s6⟩, s7⟩ := hS
  have fr : ∀ c, c ≠ 0 → j_up J 0 q v c = J c := fun c hc => by rw [j_up_cell _ hc]
  exact ⟨s1.frR (fun c c1 _ => fr c c1), s2, s3, by rw [j_up_nq _ (Or.inr (Ne.symm hq))]; exact s4, ⟨g, s5.cg fr, by rw [fr 44 (by decide)]; exact s6⟩, s7⟩
/-- the sea come to its end, in both -/
def seaR (m : Nat → Int32) (o r N : Nat) (ans : Int32) (I J : Nat → Nat → Int32) (L L' : Nat → Nat → Int64) : Prop := seaC m o I J L ∧ memK m o I L ∧ turK N I ∧ L 61 4 = lI (VW m o 0 200000 0 0) ∧ rfS m o I J L' ∧ L' 0 64 = lI (VW m o 0 200000 0 0) ∧ J 0 61 = nI r ∧ J 0 60 = ans ∧ (ans = 1 ∨ ans = 2 ∨ (ans = 0 ∧ ∃ c b, (-2048 ≤ c ∧ c ≤ 2048) ∧ (-2048 ≤ b ∧ b ≤ 2048) ∧ (-200001 ≤ seaL m o (WT m o) b c ∧ seaL m o (WT m o) b c ≤ 200001) ∧ tdP m o b c L ∧ (∀ p, p < 16 → hasL m o p → I 67 p = vI (liqL m p b c)) ∧ J 0 66 = vI (seaL m o (WT m o) b c) ∧ J 0 67 = vI b ∧ J 0 68 = vI c ∧ L' 0 65 = lI (VA m o 0 b c) ∧ L' 38 0 = lI (XA m o 1 b c) ∧ L' 38 1 = lI (XA m o 2 b c) ∧ L' 38 2 = lI (XA m o 3 b c)))
def rrF (J J' : Nat → Nat → Int32) (L L' : Nat → Nat → Int64) : Prop := (∀ c, c ≠ 0 → c < 44 ∨ 47 < c → J' c = J c) ∧ (∀ q, q < 60 ∨ 62 < q → q < 66 ∨ 68 < q → q ≠ 86 → J' 0 q = J 0 q) ∧ (∀ c, c ≠ 0 → c ≠ 38 → L' c = L c) ∧ ∀ q, q < 63 ∨ 85 < q → L' 0 q = L 0 q
theorem rrF.trans {J1 J2 : Nat → Nat → Int32} {L1 L2 : Nat → Nat → Int64} (a : rrF J J1 L L1) (b : rrF J1 J2 L1 L2) : rrF J J2 L L2 := ⟨fun c c1 c2 => by rw [b.1 c c1 c2, a.1 c c1 c2], fun q q1 q2 q3 => by rw [b.2.1 q q1 q2 q3, a.2.1 q q1 q2 q3], fun c c1 c2 => by rw [b.2.2.1 c c1 c2, a.2.2.1 c c1 c2], fun q hq => by rw [b.2.2.2 q hq, a.2.2.2 q hq]⟩
theorem frD.rr {J' : Nat → Nat → Int32} {L1 : Nat → Nat → Int64} (a : frD J J' L L1) : rrF J J' L L1 := ⟨a.1, fun q q1 q2 q3 => a.2.1 q (by omega) (by omega) (by omega) (by omega) q3, a.2.2.1, a.2.2.2⟩
theorem sea_loop (rt : rtM m) {l1 : Int32} : ∀ (n i o N : Nat) (I J : Nat → Nat → Int32) (L L' : Nat → Nat → Int64) (l2 l4 : Int32) (o6 : Option Value), i + n = 17 → i ≤ cntB o 16 → l4 ≠ 0 → mQ m I J → opKd m o → o < 65536 → hlE m I → I 81 0 = 16 → nearK I → I 60 4 = nI o → turK N I → N + n < 2000000000 → J 0 62 = nI o → J 0 61 = nI i → ∃ o' r N' ans I2 J2 L2 L2' i' p6, o' < 65536 ∧ r ≤ 16 ∧ N' ≤ N + n ∧ seaR m o' r N' ans I2 J2 L2 L2' ∧ rcF I I2 L L2 ∧ rrF J J2 L' L2' ∧ jv (d + 5) 102 26 [some (.ref 60), some (.int l1), some (.int l2), some (.int (nI i)), some (.int l4), some (.int (nI i)), o6] [] (shC, I, L, pX pa pb pu pw) = jv (d + 5) 102 158 [some (.ref 60), some (.int l1), some (.int ans), some (.int (nI r)), some (.int 0), some (.int i'), p6] [] (shC, I2, L2, pX pa pb pu pw) ∧ jv (e + 12) 319 80 [some (.ref 0), some (.int l1), some (.int 1)] [] (shR, J, L', pR) = jv (e + 12) 319 80 [some (.ref 0), some (.int l1), some (.int 0)] [] (shR, J2, L2', pR) := by
  obtain ⟨-, hsp, hwt, hop⟩ := rt
  intro n
  induction n with
  | zero => intro i o N I J L L' l2 l4 o6 hi hc; have := cntB_le o 16; omega
  | succ n ih =>
    intro i o N I J L L' l2 l4 o6 hi hcn h4 h hk o16 hE' h81 hn ho ht hN hJo hJ61
    obtain ⟨I1, L1, a1, a2, a3, a4, a5, a6⟩ := round_c2 (d := d) (L := L) (pa := pa) (pb := pb) (pu := pu) (pw := pw) h hsp hk o16 hE' h81 hn ho ht (by omega) (l1 := l1) (l2 := l2) (l3 := nI i) h4 (i := i) (by have := cntB_le o 16; omega) o6
    obtain ⟨J1, L1', b1, b2, b3, b4, b5⟩ := round_r2 (e := e) (L := L') h hsp hwt hk hJo
    have q1 : mQ m I1 J1 := a1.1.1.frR (fun c c1 c6 => b4.1 c c1 (by omega))
    have j61 : J1 0 61 = nI i := by rw [b4.2.1 61 (by decide) (by decide) (by decide) (by decide) (by decide)]; exact hJ61
    have first : jv (e + 12) 319 80 [some (.ref 0), some (.int l1), some (.int 1)] [] (shR, J, L', pR) = jv (e + 12) 319 88 [some (.ref 0), some (.int l1), some (.int 1)] [] (shR, J1, L1', pR) := by
      rw [B319_80, if_neg (show ¬ (1 : Int32) = 0 by decide), jgo_some (d := e + 11) rfl b5]
      rfl
    -- no more rounds, in the second one
    have stop : ∀ (Jx : Nat → Nat → Int32), jv (e + 12) 319 106 [some (.ref 0), some (.int l1), some (.int 1)] [] (shR, Jx, L1', pR) = jv (e + 12) 319 80 [some (.ref 0), some (.int l1), some (.int 0)] [] (shR, j_up Jx 0 61 (Jx 0 61 + 0), L1', pR) := by
      intro Jx
      rw [B319_106, B319_107, if_pos rfl, B319_122]
    have last : ∀ (x : Int32) (p6 : Option Value) (Ix : Nat → Nat → Int32), jv (d + 5) 102 26 [some (.ref 60), some (.int l1), some (.int x), some (.int (nI i)), some (.int 0), some (.int (nI (i + 1))), p6] [] (shC, Ix, L1, pX pa pb pu pw) = jv (d + 5) 102 158 [some (.ref 60), some (.int l1), some (.int x), some (.int (nI i)), some (.int 0), some (.int (nI (i + 1))), p6] [] (shC, Ix, L1, pX pa pb pu pw) := by
      intro x p6 Ix
      rw [B102_26, if_pos rfl, ite_self]
    have i16 : i ≤ 16 := by have := cntB_le o 16; omega
    -- ends without a rest
    have bad : ∀ ans : Int32, (ans = 1 ∨ ans = 2) → J1 0 60 = ans → jv (d + 5) 102 26 [some (.ref 60), some (.int l1), some (.int l2), some (.int (nI i)), some (.int l4), some (.int (nI i)), o6] [] (shC, I, L, pX pa pb pu pw) = jv (d + 5) 102 26 [some (.ref 60), some (.int l1), some (.int ans), some (.int (nI i)), some (.int 0), some (.int (nI (i + 1))), some (.int 1048576)] [] (shC, I1, L1, pX pa pb pu pw) → ∃ o' r N' ans I2 J2 L2 L2' i' p6, o' < 65536 ∧ r ≤ 16 ∧ N' ≤ N + (n + 1) ∧ seaR m o' r N' ans I2 J2 L2 L2' ∧ rcF I I2 L L2 ∧ rrF J J2 L' L2' ∧ jv (d + 5) 102 26 [some (.ref 60), some (.int l1), some (.int l2), some (.int (nI i)), some (.int l4), some (.int (nI i)), o6] [] (shC, I, L, pX pa pb pu pw) = jv (d + 5) 102 158 [some (.ref 60), some (.int l1), some (.int ans), some (.int (nI r)), some (.int 0), some (.int i'), p6] [] (shC, I2, L2, pX pa pb pu pw) ∧ jv (e + 12) 319 80 [some (.ref 0), some (.int l1), some (.int 1)] [] (shR, J, L', pR) = jv (e + 12) 319 80 [some (.ref 0), some (.int l1), some (.int 0)] [] (shR, J2, L2', pR) := by
      intro ans hans hj hrun
      have J2o : rfS m o I1 (j_up J1 0 61 (J1 0 61 + 0)) L1' := (b1.toI q1).own _ (by decide)
      refine ⟨o, i, N + 1, ans, I1, j_up J1 0 61 (J1 0 61 + 0), L1, L1', nI (i + 1), some (.int 1048576), o16, i16, by omega, ⟨a1.toJ J2o.1, a2, a3, a4, J2o, b2, by rw [j_up_eq, j61]; exact nI_add i 0, by rw [j_up_nq _ (Or.inr (by decide))]; exact hj, by rcases hans with z | z; exact Or.inl z; exact Or.inr (Or.inl z)⟩, a5, b4.rr.trans ⟨fun c c1 _ => by rw [j_up_cell _ c1], fun q q1 _ _ => by rw [j_up_nq _ (Or.inr (by omega))], fun _ _ _ => rfl, fun _ _ => rfl⟩, by rw [hrun, last], ?_⟩
      rw [first, B319_88, if_neg (show ¬ J1 0 60 = 0 from fun y => by rw [hj] at y; rcases hans with z | z <;> (rw [z] at y; exact absurd y (by decide))), stop]
    rcases a6 with ⟨g1, g2⟩ | ⟨g1, g2, g3⟩ | ⟨g1, c, b, v, g2, g3, g4, g5, g6, g7, g8⟩
    · rcases b3 with ⟨-, z⟩ | ⟨z, -⟩ | ⟨z, -⟩
      · exact bad 1 (Or.inl rfl) z g2
      · omega
      · omega
    · rcases b3 with ⟨z, -⟩ | ⟨-, -, z⟩ | ⟨-, c, b, z, -⟩
      · omega
      · exact bad 2 (Or.inr rfl) z g3
      · rw [g2] at z; cases z
    · rcases b3 with ⟨z, -⟩ | ⟨-, z, -⟩ | ⟨-, c', b', z1, z2, z3, z4, z5, z6, z7, z8, z9, z10⟩
      · omega
      · rw [g2] at z; cases z
      have ec : c = c' := Option.some.inj (g2.symm.trans z1)
      subst ec
      have eb : b = b' := Option.some.inj (g3.symm.trans z2)
      subst eb
      obtain ⟨⟨_, _⟩, cb1, cb2⟩ := hE_t g2
      have bb := tR_b g3
      obtain ⟨w, w1, w2⟩ := flood_r (e := e + 10) (L := L1') (b1.toI q1).1 b1.2.2.2.1 z4 z5 z6 g7 (by omega) (by omega)
      have ev : v = w := bits_eq g6 w1
      subst ev
      have second : jv (e + 12) 319 88 [some (.ref 0), some (.int l1), some (.int 1)] [] (shR, J1, L1', pR) = jv (e + 12) 319 99 [some (.ref 0), some (.int l1), some (.int 1)] [.int (if v = 0 then 0 else 1)] (shR, j_up J1 0 62 (nI o ||| v), L1', pR) := by
        rw [B319_88, if_pos z3, jgo_some (d := e + 11) rfl w2]
        rfl
      obtain ⟨k, k1, k2, k3, k4, k5⟩ := fl_set a1.1.1 hop hk o16 g6
      -- the second one's cells over the flooding
      have c62 : ∀ q, q ≠ 62 → j_up J1 0 62 (nI o ||| v) 0 q = J1 0 q := fun q hq => by rw [j_up_nq _ (Or.inr hq)]
      have cc : ∀ c, c ≠ 0 → j_up J1 0 62 (nI o ||| v) c = J1 c := fun c hc => by rw [j_up_cell _ hc]
      by_cases v0 : v = 0
      · have J2eq : (nI o ||| v) = nI o := by rw [v0, show (0 : Int32) = nI 0 from rfl, or_nI, Nat.or_zero]
        have I2eq : j_up I1 60 4 (nI o ||| v) = I1 := by
          rw [J2eq]
          funext x y
          by_cases zz : x = 60 ∧ y = 4
          · rw [zz.1, zz.2, j_up_eq]; exact a1.2.2.2.2.1.symm
          · rw [j_up_nq _ (by omega)]
        have J2id : j_up J1 0 62 (nI o ||| v) = J1 := by
          rw [J2eq]
          funext x y
          by_cases zz : x = 0 ∧ y = 62
          · rw [zz.1, zz.2, j_up_eq]; exact b1.2.2.2.1.symm
          · rw [j_up_nq _ (by omega)]
        have J2o : rfS m o I1 (j_up J1 0 61 (J1 0 61 + 0)) L1' := (b1.toI q1).own _ (by decide)
        have e61 : ∀ q, q ≠ 61 → j_up J1 0 61 (J1 0 61 + 0) 0 q = J1 0 q := fun q hq => by rw [j_up_nq _ (Or.inr hq)]
        refine ⟨o, i, N + 1, 0, I1, j_up J1 0 61 (J1 0 61 + 0), L1, L1', nI (i + 1), some (.int (vI c)), o16, i16, by omega, ⟨a1.toJ J2o.1, a2, a3, a4, J2o, b2, by rw [j_up_eq, j61]; exact nI_add i 0, by rw [e61 60 (by decide)]; exact z3, Or.inr (Or.inr ⟨rfl, c, b, by omega, by omega, g7, g4, g5, by rw [e61 66 (by decide)]; exact z4, by rw [e61 67 (by decide)]; exact z5, by rw [e61 68 (by decide)]; exact z6, z7, z8, z9, z10⟩)⟩, a5, b4.rr.trans ⟨fun c c1 _ => by rw [j_up_cell _ c1], fun q q1 _ _ => by rw [j_up_nq _ (Or.inr (by omega))], fun _ _ _ => rfl, fun _ _ => rfl⟩, ?_, ?_⟩
        · rw [g8, I2eq, if_pos v0, v0, show nI i + 0 = nI i from nI_add i 0, last]
        · rw [first, second, J2id, if_pos v0, B319_99, if_pos rfl, stop]
      · -- one round more
        obtain ⟨p, p1, p2⟩ := bit_ex v0
        have kp : k.testBit p = true := by rw [k2, nI_bit p1] at p2; exact p2
        obtain ⟨kp1, kp2⟩ := k5 p kp
        have cl := cntB_lt (o := o) kp kp1 16 kp2
        have le16 := cntB_le (o ||| k) 16
        rw [k2, or_nI] at g8 second c62 cc
        generalize hI2 : j_up I1 60 4 (nI (o ||| k)) = I2 at g8
        have f2 : ∀ c, c ≠ 60 → I2 c = I1 c := fun c hc => by rw [← hI2, j_up_cell _ hc]
        have f60 : ∀ j, j ≠ 4 → I2 60 j = I1 60 j := fun j hj => by rw [← hI2, j_up_nq _ (Or.inr hj)]
        generalize hJ2 : j_up (j_up J1 0 62 (nI (o ||| k))) 0 61 (nI (i + 1)) = J2
        have g2c : ∀ c, c ≠ 0 → J2 c = J1 c := fun c hc => by rw [← hJ2, j_up_cell _ hc, j_up_cell _ hc]
        have g20 : ∀ q, q ≠ 61 → q ≠ 62 → J2 0 q = J1 0 q := fun q h1 h2 => by rw [← hJ2, j_up_nq _ (Or.inr h1), j_up_nq _ (Or.inr h2)]
        have q2 : mQ m I2 J2 := (q1.fr (fun q _ => by rw [f2 2 (by decide)])).frR (fun c c1 _ => g2c c c1)
        have hE2 : hlE m I2 := by
          have := a1.2.1
          refine ⟨fun x hx => ?_, fun x hx => ?_⟩
          · rw [f2 73 (by decide), f2 74 (by decide)]; exact this.1 x hx
          · rw [f2 75 (by decide), f2 76 (by decide), f2 77 (by decide), f2 78 (by decide), f2 79 (by decide), f2 80 (by decide)]; exact this.2 x hx
        obtain ⟨o', r, N', ans, I3, J3, L3, L3', i', p6, y1, y2, y3, y4, y5, y6, y7, y8⟩ := ih (i + 1) (o ||| k) (N + 1) I2 J2 L1 L1' 0 (nI k) (some (.int (vI c))) (by omega) (by omega) (fun z => v0 (by rw [k2]; exact z)) q2 k3 k4 hE2 (by rw [f2 81 (by decide), a1.2.2.1 0 (by decide)]; rfl) (fun q hq => by rw [f2 82 (by decide)]; exact a1.2.2.2.1 q hq) (by rw [← hI2, j_up_eq]) ⟨by rw [f60 6 (by decide)]; exact a3.1, fun x hx => by rw [f2 71 (by decide)]; exact a3.2 x hx⟩ (by omega) (by rw [← hJ2, j_up_nq _ (Or.inr (by decide)), j_up_eq]) (by rw [← hJ2, j_up_eq])
        refine ⟨o', r, N', ans, I3, J3, L3, L3', i', p6, y1, y2, by omega, y4, (a5.trans ⟨fun c c1 _ _ _ _ _ => f2 c c1, fun j j1 _ _ => f60 j j1, fun _ _ => rfl⟩).trans y5, (b4.rr.trans ⟨fun c c1 _ => g2c c c1, fun q h1 _ _ => g20 q (by omega) (by omega), fun _ _ _ => rfl, fun _ _ => rfl⟩).trans y6, ?_, ?_⟩
        · rw [g8, if_neg (show ¬ nI k = 0 from fun z => v0 (by rw [k2]; exact z)), nI_1]; exact y7
        · rw [first, second, if_neg (show ¬ nI k = 0 from fun z => v0 (by rw [k2]; exact z)), B319_99, if_neg (show ¬ (1 : Int32) = 0 by decide), B319_107, if_neg (show ¬ (1 : Int32) = 0 by decide), B319_122, c62 61 (by decide), j61, nI_1, hJ2]
          exact y8
end SEBP
