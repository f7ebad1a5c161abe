/-! RULES: what is around them, both -/
section SEBY
variable {d e : Nat} {I J I0 J0 : Nat → Nat → Int32} {L L' Lr : Nat → Nat → Int64} {pa pb pu pw : Option Nat} {m : Nat → Int32} {k : Bool} {N o r nt np nl : Nat} {ans : Int32} {b c : Int}
def tqX (g : Nat) (I : Nat → Nat → Int32) (t : Nat) (p : Int × Int) : Int × Int := tbl (I (g + 10) t).toNatClampNeg (fun j => (I (g + 8) (12 * t + j)).toInt) (fun j => (I (g + 9) (12 * t + j)).toInt) p
theorem tgo_nz {px py : Nat → Int} (p : Int × Int) : ∀ r i a, nz a → nz (tgo px py p r i a) := by
  intro r
  induction r with
  | zero => intro i a ha; exact ha
  | succ r ih =>
    intro i a ha
    have one : ∀ x : Int, nz (x, 1) := fun x z => absurd z (show ¬ (1 : Int) = 0 by decide)
    unfold tgo
    split
    · exact fun _ => rfl
    · split
      · exact fA_nz _ _ _ _ _
      · split
        · exact ih _ _ (one _)
        · exact one _
theorem tqX_b (g t : Nat) (p : Int × Int) : fN (tqX g I t p) ∧ nz (tqX g I t p) := ⟨tgo_b (fun i => i32_b _) p _ _ _ fN0, tgo_nz p _ _ _ (fun _ => rfl)⟩
noncomputable def wdX (m : Nat → Int32) (k : Bool) (o r : Nat) (ans : Int32) (b c : Int) (I : Nat → Nat → Int32) (w : Nat) : Int × Int := if w < 6 then wdZ m k o r ans b c w else wdA m I w
noncomputable def woX (m : Nat → Int32) (k : Bool) (o : Nat) (ans : Int32) (b c : Int) (I : Nat → Nat → Int32) (w : Nat) (p : Int × Int) : Int × Int := if w < 4 then woZ m k o ans b c w p else woA m I w p
theorem wdX_b {w : Nat} : fN (wdX m k o r ans b c I w) ∧ nz (wdX m k o r ans b c I w) := by
  unfold wdX; split
  · exact wdZ_b
  · exact wdA_b
theorem woX_b (hk : mK m I J) {w : Nat} (p : Int × Int) : fN (woX m k o ans b c I w p) ∧ nz (woX m k o ans b c I w p) := by
  unfold woX; split
  · exact woZ_b p
  · exact woA_b hk p
theorem wdA_cg (h1 : I 83 = I0 83) (h2 : I 96 = I0 96) (h3 : I 107 = I0 107) (w : Nat) : wdA m I w = wdA m I0 w := by
  unfold wdA; rw [h1, h2, h3]
theorem woA_cg (h2 : I 96 = I0 96) (h3 : I 107 = I0 107) (h4 : I 97 = I0 97) (h5 : I 110 = I0 110) (h6 : I 111 = I0 111) (w : Nat) (p : Int × Int) : woA m I w p = woA m I0 w p := by
  unfold woA woB; rw [h2, h3, h4, h5, h6]
/-- what the sea's half hangs on, first one -/
theorem cH.cg {I' : Nat → Nat → Int32} {L1 : Nat → Nat → Int64} (h : cH m k N o r ans b c I J L) (f1 : ∀ x, x ≤ 82 → I' x = I x) (f2 : ∀ x, 60 ≤ x → x ≤ 72 → L1 x = L x) : cH m k N o r ans b c I' J L1 := by
  obtain ⟨n1, n2, n3, h1⟩ := h
  have n1' : nearK I' := fun q hq => by rw [f1 82 (by decide)]; exact n1 q hq
  refine ⟨n1', ⟨by rw [f1 60 (by decide)]; exact n2.1, fun i hi => by rw [f1 71 (by decide)]; exact n2.2 i hi⟩, by rw [f1 75 (by decide), f1 77 (by decide), f1 79 (by decide)]; exact n3, ?_⟩
  cases k with
  | false => rw [if_pos rfl] at h1 ⊢; rw [f1 60 (by decide)]; exact h1
  | true =>
    rw [if_neg (by decide)] at h1 ⊢
    obtain ⟨z1, y3, y4, y6, hC⟩ := h1
    have l61 : L1 61 = L 61 := f2 61 (by decide) (by decide)
    refine ⟨by rw [f1 60 (by decide)]; exact z1, y3.gen (f1 2 (by decide)) (by rw [f1 60 (by decide)]) (by rw [f1 60 (by decide)]) (fun x _ x2 => f1 x (by omega)) n1' (by rw [f2 60 (by decide) (by decide)]) (fun x hx => f2 x (by omega) (by omega)), fun i hi hk => ?_, by rw [l61]; exact y6, fun z => ?_⟩
    · rw [f1 71 (by decide), f1 60 (by decide)] at hk
      rw [f2 70 (by decide) (by decide), f1 69 (by decide)]; exact y4 i hi hk
    · obtain ⟨c1, c2, c3⟩ := hC z
      refine ⟨?_, fun p hp hl => by rw [f1 67 (by decide)]; exact c2 p hp hl, fun s hs => by rw [f2 68 (by decide) (by decide)]; exact c3 s hs⟩
      unfold tdP
      rw [l61]; exact c1
theorem mK.fr {I' : Nat → Nat → Int32} (h : mK m I J) (e : I' 2 = I 2) : mK m I' J := ⟨fun q hq => by rw [e]; exact h.1 q hq, h.2⟩
theorem mK.frR {J' : Nat → Nat → Int32} (h : mK m I J) (e : ∀ x, x ≠ 0 → x ≤ 6 → J' x = J x) : mK m I J' := ⟨h.1, fun q hq => by rw [e 6 (by decide) (by decide)]; exact h.2.1 q hq, h.2.2.1, rCst_eq1 h.2.2.2.1 (fun x x1 x6 => e x x1 (by omega)), h.2.2.2.2⟩
theorem knW.cg {J' : Nat → Nat → Int32} (h : knW I J) (f1 : ∀ x, x ≠ 0 → J' x = J x) (f2 : ∀ q, 87 ≤ q → J' 0 q = J 0 q) : knW I J' := by
  unfold knW pieceRel wayRel planRel at *
  rw [f1 48 (by decide), f1 49 (by decide), f1 50 (by decide), f1 51 (by decide), f1 52 (by decide), f1 62 (by decide), f1 63 (by decide), f1 64 (by decide), f1 65 (by decide), f1 6 (by decide), f1 72 (by decide), f1 73 (by decide), f2 87 (by decide), f2 88 (by decide), f2 89 (by decide), f2 103 (by decide), f2 104 (by decide), f2 107 (by decide), f2 108 (by decide), f2 120 (by decide), f2 121 (by decide)]
  exact h
/-- around the first one -/
def wIx (m : Nat → Int32) (k : Bool) (N o r : Nat) (ans : Int32) (b c : Int) (J0 I : Nat → Nat → Int32) (L : Nat → Nat → Int64) : Prop := mK m I J0 ∧ cH m k N o r ans b c I J0 L
/-- what rules leave alone in the second one -/
def frX (Jb J : Nat → Nat → Int32) (Lb L : Nat → Nat → Int64) : Prop := (∀ x, x ≠ 0 → J x = Jb x) ∧ (∀ q, q ≠ 53 → q ≠ 56 → q ≠ 57 → q ≠ 86 → J 0 q = Jb 0 q) ∧ (∀ x, x ≠ 0 → x ≠ 37 → L x = Lb x) ∧ ∀ q, q ≠ 54 → q ≠ 55 → q < 79 ∨ 85 < q → L 0 q = Lb 0 q
/-- around the second one -/
def wJx (m : Nat → Int32) (k : Bool) (o r : Nat) (ans : Int32) (b c : Int) (I0 Jb : Nat → Nat → Int32) (Lb : Nat → Nat → Int64) (J : Nat → Nat → Int32) (L : Nat → Nat → Int64) : Prop := mK m I0 J ∧ knW I0 J ∧ rH m k o r ans b c I0 J L ∧ frX Jb J Lb L
theorem wIx_2 : wS2 (wIx m k N o r ans b c J0) := fun I L I' L' h f1 f2 => ⟨h.1.fr (f1 2 (by decide) (by decide)), h.2.cg (fun x hx => f1 x (by omega) (by omega)) (fun x h1 h2 => f2 x (by omega) (by omega) (by omega) (by omega))⟩
theorem wJx_2 : wStR (wJx m k o r ans b c I0 J0 Lr) := fun J L J' L' h f1 f2 f3 f4 => ⟨h.1.frR (fun x x1 _ => f1 x x1), h.2.1.cg f1 (fun q hq => f2 q (by omega) (by omega) (by omega)), h.2.2.1.gen f1 (fun q hq => f2 q (by omega) (by omega) (by omega)) (fun x h1 h2 => f3 x (by omega) (by omega)) (fun q h1 h2 => f4 q (by omega) (by omega)), fun x hx => by rw [f1 x hx]; exact h.2.2.2.1 x hx, fun q h1 h2 h3 h4 => by rw [f2 q h1 h2 h3]; exact h.2.2.2.2.1 q h1 h2 h3 h4, fun x h1 h2 => by rw [f3 x h1 h2]; exact h.2.2.2.2.2.1 x h1 h2, fun q h1 h2 h3 => by rw [f4 q h1 h2]; exact h.2.2.2.2.2.2 q h1 h2 h3⟩
theorem envC_38 (hd : k = true → seaD m o r ans b c) (hnt : nt ≤ 8) (hT : prT 38 nt np I0 J0 Lr) (hK : mK m I0 J0) {Ib : Nat → Nat → Int32} {Lb : Nat → Nat → Int64} (hb : ∀ x, x < 60 ∨ 82 < x → x ≠ 116 → x ≠ 120 → Ib x = I0 x) : envC 38 (wIx m k N o r ans b c J0) Ib Lb nt (tqX 38 I0) (wdX m k o r ans b c I0) (woX m k o ans b c I0) pa pb pu := by
  refine ⟨wIx_2.st, fun w _ => wdX_b.1, fun w p _ => (woX_b hK p).1, fun i p _ => (tqX_b 38 i p).1, hnt, ?_, ?_, ?_⟩
  · intro d s rho cc t I L w hd60 hw hS
    obtain ⟨d', rfl⟩ : ∃ d', d = d' + 3 := ⟨d - 3, by omega⟩
    have fI : ∀ x, x < 60 ∨ 82 < x → x ≠ 116 → x ≠ 120 → I x = I0 x := fun x h1 h2 h3 => by rw [hS.1 x h1 h2, hb x h1 h2 h3]
    obtain ⟨w1, w2⟩ := hS.2.2.2.2.2
    refine ⟨I, L, ?_, hS⟩
    unfold wdX
    by_cases z : w < 6
    · rw [if_pos z]; exact word_c0 hd w2 z
    · rw [if_neg z, ← wdA_cg (I := I) (fI 83 (by decide) (by decide) (by decide)) (fI 96 (by decide) (by decide) (by decide)) (fI 107 (by decide) (by decide) (by decide)) w]
      exact word_c6 (d := d' + 1) (by omega) hw w1.1
  · intro d s rho cc t I L w p hd60 hw hS hp h6 h7
    obtain ⟨d', rfl⟩ : ∃ d', d = d' + 5 := ⟨d - 5, by omega⟩
    have fI : ∀ x, x < 60 ∨ 82 < x → x ≠ 116 → x ≠ 120 → I x = I0 x := fun x h1 h2 h3 => by rw [hS.1 x h1 h2, hb x h1 h2 h3]
    obtain ⟨s1, s2, s3, s4, s5, w1, w2⟩ := hS
    unfold woX
    by_cases z : w < 4
    · rw [if_pos z]
      obtain ⟨I', L1, f1, f2, f3⟩ := woZ_c (d := d') (pa := pa) (pb := pb) (pu := pu) (pw := some 38) hd w1.q w2 z hp h6 h7
      refine ⟨I', L1, f3, fun x h1 h2 => by rw [f1.1 x (by omega) (by omega) (by omega), s1 x h1 h2], fun q hq => by rw [f1.1 116 (by decide) (by decide) (by decide), s2 q hq], by rw [f1.1 116 (by decide) (by decide) (by decide)]; exact s3, fun x h1 h2 h3 => by rw [f1.2.2.1 x (by omega) (by omega) (by omega) (by omega), fqC_cl _ h2, s4 x h1 h2 h3], fun i hi => by rw [f1.2.2.1 117 (by decide) (by decide) (by decide) (by decide), fqC_cl _ (by decide)]; exact s5 i hi, w1.fr (f1.1 2 (by decide) (by decide) (by decide)), f2⟩
    · rw [if_neg z, ← woA_cg (I := I) (fI 96 (by decide) (by decide) (by decide)) (fI 107 (by decide) (by decide) (by decide)) (fI 97 (by decide) (by decide) (by decide)) (fI 110 (by decide) (by decide) (by decide)) (fI 111 (by decide) (by decide) (by decide)) w p]
      exact ⟨I, L, woA_c (by omega) (by omega) w1 hp h6 h7, s1, s2, s3, s4, s5, w1, w2⟩
  · intro d s rho cc t I L i p hd60 hi hS hp h6 h7
    obtain ⟨d', rfl⟩ : ∃ d', d = d' + 4 := ⟨d - 4, by omega⟩
    have fI : ∀ x, x < 60 → I x = I0 x := fun x h1 => by rw [hS.1 x (Or.inl h1) (by omega), hb x (Or.inl h1) (by omega) (by omega)]
    obtain ⟨a, mm, t1, t2, t3, t4, t5, t6, t7, -⟩ := hT i hi
    have em : (I0 (38 + 10) i).toNatClampNeg = mm := by rw [t6, nI_clamp (by omega)]
    unfold tqX
    rw [em]
    refine tbl_c38 hp (by omega) t1 t2 (by rw [fI _ (by decide)]; exact t6) (fun j hj => ?_) (fun j hj => ?_) h6 h7
    · obtain ⟨⟨z, z1, z2, z3, -⟩, -⟩ := t7 j hj
      rw [fI _ (by decide)]
      refine ⟨rfl, ?_⟩
      show sml (I0 (38 + 8) (12 * i + j)).toInt
      rw [z3]; exact ⟨z1, z2⟩
    · obtain ⟨-, ⟨z, z1, z2, z3, -⟩⟩ := t7 j hj
      rw [fI _ (by decide)]
      refine ⟨rfl, ?_⟩
      show sml (I0 (38 + 9) (12 * i + j)).toInt
      rw [z3]; exact ⟨z1, z2⟩
theorem envR_38 (hd : k = true → seaD m o r ans b c) (hnt : nt ≤ 8) (hnp : np ≤ 96) (hT : prT 38 nt np I0 J0 Lr) (hl : ∀ i, i < nl → J0 27 i = nI (lnR J0 i)) (hK : mK m I0 J0) : envR (wJx m k o r ans b c I0 J0 Lr) J0 Lr nl nt (lnR J0) (tqX 38 I0) (wdX m k o r ans b c I0) (woX m k o ans b c I0) := by
  -- a cell that no word asks for
  have up : ∀ {s : Nat} {rho : Nat → Nat} {cc : Nat → Int} {t : Nat} {J : Nat → Nat → Int32} {L : Nat → Nat → Int64} (y : Int32), rSt (wJx m k o r ans b c I0 J0 Lr) J0 Lr s rho cc t J L → rSt (wJx m k o r ans b c I0 J0 Lr) J0 Lr s rho cc t (j_up J 0 53 y) L := by
    intro s rho cc t J L y hS
    obtain ⟨s1, s2, s3, s4, s5, s6⟩ := hS
    exact ⟨fun x h1 h2 => by rw [j_up_cell _ h1]; exact s1 x h1 h2, fun q hq => by rw [j_up_nq _ (Or.inr (by omega))]; exact s2 q hq, by rw [j_up_nq _ (Or.inr (by decide)), j_up_nq _ (Or.inr (by decide))]; exact s3, s4, s5, wJx_2 J L _ L s6 (fun x hx => by rw [j_up_cell _ hx]) (fun q h1 _ _ => by rw [j_up_nq _ (Or.inr h1)]) (fun _ _ _ => rfl) (fun _ _ _ => rfl)⟩
  refine ⟨wJx_2, fun w _ => wdX_b, fun w p _ => woX_b hK p, fun i p _ => tqX_b 38 i p, hnt, hl, ?_, ?_, ?_⟩
  · intro e s rho cc t J L w he hw hS
    obtain ⟨e', rfl⟩ : ∃ e', e = e' + 3 := ⟨e - 3, by omega⟩
    obtain ⟨w1, w2, w3, w4⟩ := hS.2.2.2.2.2
    unfold wdX
    by_cases z : w < 6
    · rw [if_pos z]
      obtain ⟨y, hy⟩ := word_r0 (e := e') hd w3 z
      exact ⟨_, _, hy, up y hS⟩
    · rw [if_neg z]
      obtain ⟨y, hy⟩ := word_r6 (w := w) (e := e') (L' := L) (by omega) hw w1 w2
      exact ⟨_, _, hy, up y hS⟩
  · intro e s rho cc t J L w p he hw hS hp
    obtain ⟨e', rfl⟩ : ∃ e', e = e' + 9 := ⟨e - 9, by omega⟩
    obtain ⟨w1, w2, w3, w4⟩ := hS.2.2.2.2.2
    unfold woX
    by_cases z : w < 4
    · rw [if_pos z]
      obtain ⟨J', L1, f, hy⟩ := woZ_r (e := e') hd w3 z hp
      obtain ⟨s1, s2, s3, s4, s5, s6⟩ := hS
      refine ⟨J', L1, hy, fun x h1 h2 => by rw [f.1 x h1]; exact s1 x h1 h2, fun q hq => by rw [f.2.1 q (by omega) (by omega)]; exact s2 q hq, by rw [f.2.1 56 (by decide) (by decide), f.2.1 57 (by decide) (by decide)]; exact s3, fun x h1 h2 => by rw [f.2.2.1 x h1]; exact s4 x h1 h2, fun i hi => by rw [f.2.2.1 37 (by decide)]; exact s5 i hi, w1.frR (fun x x1 _ => f.1 x x1), w2.cg f.1 (fun q hq => f.2.1 q (by omega) (by omega)), w3.wo f, fun x hx => by rw [f.1 x hx]; exact w4.1 x hx, fun q h1 h2 h3 h4 => by rw [f.2.1 q h1 h4]; exact w4.2.1 q h1 h2 h3 h4, fun x h1 h2 => by rw [f.2.2.1 x h1]; exact w4.2.2.1 x h1 h2, fun q h1 h2 h3 => by rw [f.2.2.2 q h1 h2 h3]; exact w4.2.2.2 q h1 h2 h3⟩
    · rw [if_neg z]
      obtain ⟨y, hy⟩ := woA_r (w := w) (e := e' + 4) (L' := L) (by omega) (by omega) w1 w2 hp
      exact ⟨_, _, hy, up y hS⟩
  · intro e s rho cc t J L i p he hi hS hp
    obtain ⟨e', rfl⟩ : ∃ e', e = e' + 3 := ⟨e - 3, by omega⟩
    obtain ⟨a, mm, t1, t2, t3, t4, t5, t6, t7, -⟩ := hT i hi
    have em : (I0 (38 + 10) i).toNatClampNeg = mm := by rw [t6, nI_clamp (by omega)]
    have fJ : ∀ x, x ≠ 0 → x < 38 → J x = J0 x := hS.1
    have fL : ∀ x, x ≠ 0 → x < 37 → L x = Lr x := hS.2.2.2.1
    have toL : ∀ (x : Int64) (z : Int), x.toInt = z → x = lI z := fun x z hz => by rw [← hz]; exact (Int64.ofInt_toInt x).symm
    unfold tqX
    rw [em]
    obtain ⟨y, hy⟩ := tbl_r (e := e') (J := J) (L := L) (p := p) (t := i) (a := a) (m := mm) (px := fun j => (I0 (38 + 8) (12 * i + j)).toInt) (py := fun j => (I0 (38 + 9) (12 * i + j)).toInt) hp (by omega) t1 (by omega) (by rw [fJ 29 (by decide) (by decide)]; exact t4) (by rw [fJ 30 (by decide) (by decide)]; exact t5) (fun j hj => by
      obtain ⟨⟨z, z1, z2, z3, z4⟩, -⟩ := t7 j hj
      rw [fL 31 (by decide) (by decide)]
      refine ⟨?_, ?_⟩
      · show _ = lI (I0 (38 + 8) (12 * i + j)).toInt
        rw [z3]; exact toL _ _ z4
      · show sml (I0 (38 + 8) (12 * i + j)).toInt
        rw [z3]; exact ⟨z1, z2⟩) (fun j hj => by
      obtain ⟨-, ⟨z, z1, z2, z3, z4⟩⟩ := t7 j hj
      rw [fL 32 (by decide) (by decide)]
      refine ⟨?_, ?_⟩
      · show _ = lI (I0 (38 + 9) (12 * i + j)).toInt
        rw [z3]; exact toL _ _ z4
      · show sml (I0 (38 + 9) (12 * i + j)).toInt
        rw [z3]; exact ⟨z1, z2⟩)
    exact ⟨_, _, hy, up y hS⟩
theorem envC_49 (hd : k = true → seaD m o r ans b c) (hnt : nt ≤ 8) (hT : prT 49 nt np I0 J0 Lr) (hK : mK m I0 J0) {Ib : Nat → Nat → Int32} {Lb : Nat → Nat → Int64} (hb : ∀ x, x < 60 ∨ 82 < x → x ≠ 116 → x ≠ 120 → Ib x = I0 x) : envC 49 (wIx m k N o r ans b c J0) Ib Lb nt (tqX 49 I0) (wdX m k o r ans b c I0) (woX m k o ans b c I0) pa pb pu := by
  refine ⟨wIx_2.st, fun w _ => wdX_b.1, fun w p _ => (woX_b hK p).1, fun i p _ => (tqX_b 49 i p).1, hnt, ?_, ?_, ?_⟩
  · intro d s rho cc t I L w hd60 hw hS
    obtain ⟨d', rfl⟩ : ∃ d', d = d' + 3 := ⟨d - 3, by omega⟩
    have fI : ∀ x, x < 60 ∨ 82 < x → x ≠ 116 → x ≠ 120 → I x = I0 x := fun x h1 h2 h3 => by rw [hS.1 x h1 h2, hb x h1 h2 h3]
    obtain ⟨w1, w2⟩ := hS.2.2.2.2.2
    refine ⟨I, L, ?_, hS⟩
    unfold wdX
    by_cases z : w < 6
    · rw [if_pos z]; exact word_c0 hd w2 z
    · rw [if_neg z, ← wdA_cg (I := I) (fI 83 (by decide) (by decide) (by decide)) (fI 96 (by decide) (by decide) (by decide)) (fI 107 (by decide) (by decide) (by decide)) w]
      exact word_c6 (d := d' + 1) (by omega) hw w1.1
  · intro d s rho cc t I L w p hd60 hw hS hp h6 h7
    obtain ⟨d', rfl⟩ : ∃ d', d = d' + 5 := ⟨d - 5, by omega⟩
    have fI : ∀ x, x < 60 ∨ 82 < x → x ≠ 116 → x ≠ 120 → I x = I0 x := fun x h1 h2 h3 => by rw [hS.1 x h1 h2, hb x h1 h2 h3]
    obtain ⟨s1, s2, s3, s4, s5, w1, w2⟩ := hS
    unfold woX
    by_cases z : w < 4
    · rw [if_pos z]
      obtain ⟨I', L1, f1, f2, f3⟩ := woZ_c (d := d') (pa := pa) (pb := pb) (pu := pu) (pw := some 49) hd w1.q w2 z hp h6 h7
      refine ⟨I', L1, f3, fun x h1 h2 => by rw [f1.1 x (by omega) (by omega) (by omega), s1 x h1 h2], fun q hq => by rw [f1.1 116 (by decide) (by decide) (by decide), s2 q hq], by rw [f1.1 116 (by decide) (by decide) (by decide)]; exact s3, fun x h1 h2 h3 => by rw [f1.2.2.1 x (by omega) (by omega) (by omega) (by omega), fqC_cl _ h2, s4 x h1 h2 h3], fun i hi => by rw [f1.2.2.1 117 (by decide) (by decide) (by decide) (by decide), fqC_cl _ (by decide)]; exact s5 i hi, w1.fr (f1.1 2 (by decide) (by decide) (by decide)), f2⟩
    · rw [if_neg z, ← woA_cg (I := I) (fI 96 (by decide) (by decide) (by decide)) (fI 107 (by decide) (by decide) (by decide)) (fI 97 (by decide) (by decide) (by decide)) (fI 110 (by decide) (by decide) (by decide)) (fI 111 (by decide) (by decide) (by decide)) w p]
      exact ⟨I, L, woA_c (by omega) (by omega) w1 hp h6 h7, s1, s2, s3, s4, s5, w1, w2⟩
  · intro d s rho cc t I L i p hd60 hi hS hp h6 h7
    obtain ⟨d', rfl⟩ : ∃ d', d = d' + 4 := ⟨d - 4, by omega⟩
    have fI : ∀ x, x < 60 → I x = I0 x := fun x h1 => by rw [hS.1 x (Or.inl h1) (by omega), hb x (Or.inl h1) (by omega) (by omega)]
    obtain ⟨a, mm, t1, t2, t3, t4, t5, t6, t7, -⟩ := hT i hi
    have em : (I0 (49 + 10) i).toNatClampNeg = mm := by rw [t6, nI_clamp (by omega)]
    unfold tqX
    rw [em]
    refine tbl_c49 hp (by omega) t1 t2 (by rw [fI _ (by decide)]; exact t6) (fun j hj => ?_) (fun j hj => ?_) h6 h7
    · obtain ⟨⟨z, z1, z2, z3, -⟩, -⟩ := t7 j hj
      rw [fI _ (by decide)]
      refine ⟨rfl, ?_⟩
      show sml (I0 (49 + 8) (12 * i + j)).toInt
      rw [z3]; exact ⟨z1, z2⟩
    · obtain ⟨-, ⟨z, z1, z2, z3, -⟩⟩ := t7 j hj
      rw [fI _ (by decide)]
      refine ⟨rfl, ?_⟩
      show sml (I0 (49 + 9) (12 * i + j)).toInt
      rw [z3]; exact ⟨z1, z2⟩
theorem envR_49 (hd : k = true → seaD m o r ans b c) (hnt : nt ≤ 8) (hnp : np ≤ 96) (hT : prT 49 nt np I0 J0 Lr) (hl : ∀ i, i < nl → J0 27 i = nI (lnR J0 i)) (hK : mK m I0 J0) : envR (wJx m k o r ans b c I0 J0 Lr) J0 Lr nl nt (lnR J0) (tqX 49 I0) (wdX m k o r ans b c I0) (woX m k o ans b c I0) := by
  -- a cell that no word asks for
  have up : ∀ {s : Nat} {rho : Nat → Nat} {cc : Nat → Int} {t : Nat} {J : Nat → Nat → Int32} {L : Nat → Nat → Int64} (y : Int32), rSt (wJx m k o r ans b c I0 J0 Lr) J0 Lr s rho cc t J L → rSt (wJx m k o r ans b c I0 J0 Lr) J0 Lr s rho cc t (j_up J 0 53 y) L := by
    intro s rho cc t J L y hS
    obtain ⟨s1, s2, s3, s4, s5, s6⟩ := hS
    exact ⟨fun x h1 h2 => by rw [j_up_cell _ h1]; exact s1 x h1 h2, fun q hq => by rw [j_up_nq _ (Or.inr (by omega))]; exact s2 q hq, by rw [j_up_nq _ (Or.inr (by decide)), j_up_nq _ (Or.inr (by decide))]; exact s3, s4, s5, wJx_2 J L _ L s6 (fun x hx => by rw [j_up_cell _ hx]) (fun q h1 _ _ => by rw [j_up_nq _ (Or.inr h1)]) (fun _ _ _ => rfl) (fun _ _ _ => rfl)⟩
  refine ⟨wJx_2, fun w _ => wdX_b, fun w p _ => woX_b hK p, fun i p _ => tqX_b 49 i p, hnt, hl, ?_, ?_, ?_⟩
  · intro e s rho cc t J L w he hw hS
    obtain ⟨e', rfl⟩ : ∃ e', e = e' + 3 := ⟨e - 3, by omega⟩
    obtain ⟨w1, w2, w3, w4⟩ := hS.2.2.2.2.2
    unfold wdX
    by_cases z : w < 6
    · rw [if_pos z]
      obtain ⟨y, hy⟩ := word_r0 (e := e') hd w3 z
      exact ⟨_, _, hy, up y hS⟩
    · rw [if_neg z]
      obtain ⟨y, hy⟩ := word_r6 (w := w) (e := e') (L' := L) (by omega) hw w1 w2
      exact ⟨_, _, hy, up y hS⟩
  · intro e s rho cc t J L w p he hw hS hp
    obtain ⟨e', rfl⟩ : ∃ e', e = e' + 9 := ⟨e - 9, by omega⟩
    obtain ⟨w1, w2, w3, w4⟩ := hS.2.2.2.2.2
    unfold woX
    by_cases z : w < 4
    · rw [if_pos z]
      obtain ⟨J', L1, f, hy⟩ := woZ_r (e := e') hd w3 z hp
      obtain ⟨s1, s2, s3, s4, s5, s6⟩ := hS
      refine ⟨J', L1, hy, fun x h1 h2 => by rw [f.1 x h1]; exact s1 x h1 h2, fun q hq => by rw [f.2.1 q (by omega) (by omega)]; exact s2 q hq, by rw [f.2.1 56 (by decide) (by decide), f.2.1 57 (by decide) (by decide)]; exact s3, fun x h1 h2 => by rw [f.2.2.1 x h1]; exact s4 x h1 h2, fun i hi => by rw [f.2.2.1 37 (by decide)]; exact s5 i hi, w1.frR (fun x x1 _ => f.1 x x1), w2.cg f.1 (fun q hq => f.2.1 q (by omega) (by omega)), w3.wo f, fun x hx => by rw [f.1 x hx]; exact w4.1 x hx, fun q h1 h2 h3 h4 => by rw [f.2.1 q h1 h4]; exact w4.2.1 q h1 h2 h3 h4, fun x h1 h2 => by rw [f.2.2.1 x h1]; exact w4.2.2.1 x h1 h2, fun q h1 h2 h3 => by rw [f.2.2.2 q h1 h2 h3]; exact w4.2.2.2 q h1 h2 h3⟩
    · rw [if_neg z]
      obtain ⟨y, hy⟩ := woA_r (w := w) (e := e' + 4) (L' := L) (by omega) (by omega) w1 w2 hp
      exact ⟨_, _, hy, up y hS⟩
  · intro e s rho cc t J L i p he hi hS hp
    obtain ⟨e', rfl⟩ : ∃ e', e = e' + 3 := ⟨e - 3, by omega⟩
    obtain ⟨a, mm, t1, t2, t3, t4, t5, t6, t7, -⟩ := hT i hi
    have em : (I0 (49 + 10) i).toNatClampNeg = mm := by rw [t6, nI_clamp (by omega)]
    have fJ : ∀ x, x ≠ 0 → x < 38 → J x = J0 x := hS.1
    have fL : ∀ x, x ≠ 0 → x < 37 → L x = Lr x := hS.2.2.2.1
    have toL : ∀ (x : Int64) (z : Int), x.toInt = z → x = lI z := fun x z hz => by rw [← hz]; exact (Int64.ofInt_toInt x).symm
    unfold tqX
    rw [em]
    obtain ⟨y, hy⟩ := tbl_r (e := e') (J := J) (L := L) (p := p) (t := i) (a := a) (m := mm) (px := fun j => (I0 (49 + 8) (12 * i + j)).toInt) (py := fun j => (I0 (49 + 9) (12 * i + j)).toInt) hp (by omega) t1 (by omega) (by rw [fJ 29 (by decide) (by decide)]; exact t4) (by rw [fJ 30 (by decide) (by decide)]; exact t5) (fun j hj => by
      obtain ⟨⟨z, z1, z2, z3, z4⟩, -⟩ := t7 j hj
      rw [fL 31 (by decide) (by decide)]
      refine ⟨?_, ?_⟩
      · show _ = lI (I0 (49 + 8) (12 * i + j)).toInt
        rw [z3]; exact toL _ _ z4
      · show sml (I0 (49 + 8) (12 * i + j)).toInt
        rw [z3]; exact ⟨z1, z2⟩) (fun j hj => by
      obtain ⟨-, ⟨z, z1, z2, z3, z4⟩⟩ := t7 j hj
      rw [fL 32 (by decide) (by decide)]
      refine ⟨?_, ?_⟩
      · show _ = lI (I0 (49 + 9) (12 * i + j)).toInt
        rw [z3]; exact toL _ _ z4
      · show sml (I0 (49 + 9) (12 * i + j)).toInt
        rw [z3]; exact ⟨z1, z2⟩)
    exact ⟨_, _, hy, up y hS⟩
end SEBY
