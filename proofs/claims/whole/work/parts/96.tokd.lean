/-! RULES: all tokens, in step -/
section TOKD
variable {d e : Nat} {I J : Nat → Nat → Int32} {L L' : Nat → Nat → Int64} {pa pb pu pw : Option Nat} {m : Nat → Int32}
def tkOk (m : Nat → Int32) (n k p l : Nat) : Prop := p + l ≤ n ∧ 1 ≤ l ∧ ((k = 97 ∧ l ≤ 8 ∧ ∀ j, j < l → isL (txB m (p + j))) ∨ (k = 48 ∧ l ≤ 9 ∧ ∀ j, j < l → isD (txB m (p + j))) ∨ k ∈ sgL ∨ k = 108 ∨ k = 103)
def cV (m : Nat → Int32) (k p l : Nat) : Int64 := if k = 97 then vC m p l else if k = 48 then vN m p l else 0
def rV (m : Nat → Int32) (k p l : Nat) : Int64 := if k = 97 then vR m p l else if k = 48 then vN m p l else 0
/-- the tokens T in the class, in the reference -/
def tkA (m : Nat → Int32) (K P N : Nat → Nat) (T : Nat) (I : Nat → Nat → Int32) (L : Nat → Nat → Int64) : Prop := ∀ j, j < T → I 28 j = nI (K j) ∧ I 29 j = nI (P j) ∧ L 30 j = cV m (K j) (P j) (N j)
def tkB (m : Nat → Int32) (K P N : Nat → Nat) (T : Nat) (J : Nat → Nat → Int32) (L' : Nat → Nat → Int64) : Prop := ∀ j, j < T → J 18 j = nI (kR (K j)) ∧ J 19 j = nI (P j) ∧ L' 20 j = rV m (K j) (P j) (N j)
def tkG (m : Nat → Int32) (n : Nat) (K P N : Nat → Nat) (T : Nat) : Prop := ∀ j, j < T → tkOk m n (K j) (P j) (N j)
def upN (f : Nat → Nat) (T v : Nat) : Nat → Nat := fun j => if j = T then v else f j
theorem upN_o (f : Nat → Nat) (T v : Nat) : upN f T v T = v := if_pos rfl
theorem upN_n (f : Nat → Nat) {T v j : Nat} (h : j ≠ T) : upN f T v j = f j := if_neg h
/-- what the reading of tokens leaves as it was -/
def fTC (I I' : Nat → Nat → Int32) (L L' : Nat → Nat → Int64) : Prop := (∀ c, c ≠ 27 → c ≠ 28 → c ≠ 29 → I' c = I c) ∧ (∀ q, q ≠ 0 → q ≠ 1 → q ≠ 6 → I' 27 q = I 27 q) ∧ ∀ c, c ≠ 30 → L' c = L c
def fTR (J J' : Nat → Nat → Int32) (L L' : Nat → Nat → Int64) : Prop := (∀ c, c ≠ 0 → c ≠ 18 → c ≠ 19 → J' c = J c) ∧ (∀ q, q ≠ 27 → q ≠ 29 → q ≠ 30 → J' 0 q = J 0 q) ∧ ∀ c, c ≠ 20 → L' c = L c
theorem fTC.refl : fTC I I L L := ⟨fun _ _ _ _ => rfl, fun _ _ _ _ => rfl, fun _ _ => rfl⟩
theorem fTR.refl : fTR J J L L := ⟨fun _ _ _ _ => rfl, fun _ _ _ _ => rfl, fun _ _ => rfl⟩
theorem fTC.trans {I1 I2 I3 : Nat → Nat → Int32} {L1 L2 L3 : Nat → Nat → Int64} (h : fTC I1 I2 L1 L2) (h' : fTC I2 I3 L2 L3) : fTC I1 I3 L1 L3 := ⟨fun c a b c' => (h'.1 c a b c').trans (h.1 c a b c'), fun q a b c => (h'.2.1 q a b c).trans (h.2.1 q a b c), fun c a => (h'.2.2 c a).trans (h.2.2 c a)⟩
theorem fTR.trans {I1 I2 I3 : Nat → Nat → Int32} {L1 L2 L3 : Nat → Nat → Int64} (h : fTR I1 I2 L1 L2) (h' : fTR I2 I3 L2 L3) : fTR I1 I3 L1 L3 := ⟨fun c a b c' => (h'.1 c a b c').trans (h.1 c a b c'), fun q a b c => (h'.2.1 q a b c).trans (h.2.1 q a b c), fun c a => (h'.2.2 c a).trans (h.2.2 c a)⟩
theorem fTC_tk (T k p : Nat) (v : Int64) : fTC I (tkI I T k p) L (j_up L 30 T v) := by
  refine ⟨fun c h1 h2 h3 => ?_, fun q h1 h2 h3 => ?_, fun c h => j_up_cell L h T v⟩
  · unfold tkI; rw [j_up_cell _ h1, j_up_cell _ h3, j_up_cell _ h2]
  · unfold tkI; rw [j_up_own, if_neg h3, j_up_cell _ (by decide), j_up_cell _ (by decide)]
theorem fTR_tk (T k p : Nat) (v : Int64) : fTR J (tkJ J T k p) L' (j_up L' 20 T v) := by
  refine ⟨fun c h1 h2 h3 => ?_, fun q h1 h2 h3 => ?_, fun c h => j_up_cell L' h T v⟩
  · unfold tkJ; rw [j_up_cell _ h1, j_up_cell _ h3, j_up_cell _ h2]
  · unfold tkJ; rw [j_up_own, if_neg h1, j_up_cell _ (by decide), j_up_cell _ (by decide)]
theorem tkA_push {K P N : Nat → Nat} {T k p l : Nat} {v : Int64} (h : tkA m K P N T I L) (hv : v = cV m k p l) : tkA m (upN K T k) (upN P T p) (upN N T l) (T + 1) (tkI I T k p) (j_up L 30 T v) := by
  intro j hj
  unfold tkI
  rw [j_up_cell _ (show (28 : Nat) ≠ 27 by decide), j_up_cell _ (show (28 : Nat) ≠ 29 by decide), j_up_own, j_up_cell _ (show (29 : Nat) ≠ 27 by decide), j_up_own, j_up_cell _ (show (29 : Nat) ≠ 28 by decide), j_up_own]
  by_cases q : j = T
  · subst q; rw [if_pos rfl, if_pos rfl, if_pos rfl, upN_o, upN_o, upN_o]; exact ⟨rfl, rfl, hv⟩
  · rw [if_neg q, if_neg q, if_neg q, upN_n _ q, upN_n _ q, upN_n _ q]; exact h j (by omega)
theorem tkB_push {K P N : Nat → Nat} {T k k' p l : Nat} {v : Int64} (h : tkB m K P N T J L') (hv : v = rV m k p l) (hk : k' = kR k) : tkB m (upN K T k) (upN P T p) (upN N T l) (T + 1) (tkJ J T k' p) (j_up L' 20 T v) := by
  intro j hj
  subst hk
  unfold tkJ
  rw [j_up_cell _ (show (18 : Nat) ≠ 0 by decide), j_up_cell _ (show (18 : Nat) ≠ 19 by decide), j_up_own, j_up_cell _ (show (19 : Nat) ≠ 0 by decide), j_up_own, j_up_cell _ (show (19 : Nat) ≠ 18 by decide), j_up_own]
  by_cases q : j = T
  · subst q; rw [if_pos rfl, if_pos rfl, if_pos rfl, upN_o, upN_o, upN_o]; exact ⟨rfl, rfl, hv⟩
  · rw [if_neg q, if_neg q, if_neg q, upN_n _ q, upN_n _ q, upN_n _ q]; exact h j (by omega)
theorem tkG_push {K P N : Nat → Nat} {n T k p l : Nat} (h : tkG m n K P N T) (hk : tkOk m n k p l) : tkG m n (upN K T k) (upN P T p) (upN N T l) (T + 1) := by
  intro j hj
  by_cases q : j = T
  · subst q; rw [upN_o, upN_o, upN_o]; exact hk
  · rw [upN_n _ q, upN_n _ q, upN_n _ q]; exact h j (by omega)
theorem sgK_ok {n k : Nat} (hk : k < n) (hs : txB m k ∈ sgL) : tkOk m n (sgK m n k) k (sgN m n k) ∧ sgK m n k ≠ 97 ∧ sgK m n k ≠ 48 := by
  have hb := (txB_eq m k).2
  have h1 := sg_not _ hb hs
  unfold sgK sgN
  by_cases q : (txB m k = 60 ∨ txB m k = 62) ∧ k + 1 < n ∧ txB m (k + 1) = 61
  · rw [if_pos q, if_pos q]
    by_cases q2 : txB m k = 60
    · rw [if_pos q2]; exact ⟨⟨by omega, by decide, Or.inr (Or.inr (Or.inr (Or.inl rfl)))⟩, by decide, by decide⟩
    · rw [if_neg q2]; exact ⟨⟨by omega, by decide, Or.inr (Or.inr (Or.inr (Or.inr rfl)))⟩, by decide, by decide⟩
  · rw [if_neg q, if_neg q]
    refine ⟨⟨by omega, by decide, Or.inr (Or.inr (Or.inl hs))⟩, ?_, ?_⟩
    · intro z; exact h1.1 (by unfold isL; omega)
    · intro z; exact h1.2.1 (by unfold isD; omega)
/-- what both leave -/
def tkQ (m : Nat → Int32) (n : Nat) (px : Nat → Nat → Option Nat) (I J : Nat → Nat → Int32) (L L' : Nat → Nat → Int64) (v : Option Value) (S : jS) (w : Option Value) (S' : jS) : Prop :=
  v = none ∧ ∃ I1 L1 J1 L1', S = (shC, I1, L1, px) ∧ S' = (shR, J1, L1', pR) ∧ fTC I I1 L L1 ∧ fTR J J1 L' L1' ∧ ((w = some (.int 0) ∧ ∃ p : Nat, I1 27 0 = 1 ∧ I1 27 1 = nI p ∧ J1 0 29 = 1 ∧ J1 0 30 = nI p) ∨ (w = some (.int 1) ∧ I1 27 0 = 0 ∧ J1 0 29 = 0 ∧ ∃ T K P N, T ≤ n ∧ I1 27 6 = nI T ∧ J1 0 27 = nI (T + 1) ∧ tkA m K P N T I1 L1 ∧ tkB m K P N T J1 L1' ∧ tkG m n K P N T ∧ I1 28 T = 0 ∧ I1 29 T = nI n ∧ J1 18 T = 0 ∧ J1 19 T = nI n))
theorem tkQ.mono {n : Nat} {px : Nat → Nat → Option Nat} {I0 J0 : Nat → Nat → Int32} {L0 L0' : Nat → Nat → Int64} (h1 : fTC I0 I L0 L) (h2 : fTR J0 J L0' L') {v w : Option Value} {S S' : jS} (h : tkQ m n px I J L L' v S w S') : tkQ m n px I0 J0 L0 L0' v S w S' := by
  obtain ⟨q1, I1, L1, J1, L1', q2, q3, q4, q5, q6⟩ := h
  exact ⟨q1, I1, L1, J1, L1', q2, q3, h1.trans q4, h2.trans q5, q6⟩
theorem tok_all1 {n : Nat} (hn : n ≤ 1200) : ∀ (r k T : Nat) (K P N : Nat → Nat) (i : Nat) (I J : Nat → Nat → Int32) (L L' : Nat → Nat → Int64) (o5 p4 p5 p6 p7 p8 : Option Value), k + r = n → T ≤ k → i ≤ k → (∀ q, q < 1189 → I 2 q = m q) → (∀ q, q < 1189 → J 6 q = m q) → rCst J → I 27 0 = 0 → J 0 29 = 0 → I 27 6 = nI T → J 0 27 = nI T → tkA m K P N T I L → tkB m K P N T J L' → tkG m n K P N T → jW2 (jv (d + 4) 3 21 [some (.ref 27), some (.ref 1), some (.int (nI n)), some (.int (nI k)), some (.int (nI i)), o5] [] (shC, I, L, pX pa pb pu pw)) (jv (e + 1) 256 17 [some (.ref 0), some (.ref 6), some (.int (nI n)), some (.int (nI k)), p4, p5, p6, p7, p8] [] (shR, J, L', pR)) (tkQ m n (pX pa pb pu pw) I J L L') := by
  intro r
  induction r using Nat.strongRecOn with
  | ind r ih =>
    intro k T K P N i I J L L' o5 p4 p5 p6 p7 p8 hk hT hi hI hJ hr hf hg h6 h27 hA hB hG
    by_cases q0 : r = 0
    · have e1 : jv (e + 1) 256 17 [some (.ref 0), some (.ref 6), some (.int (nI n)), some (.int (nI k)), p4, p5, p6, p7, p8] [] (shR, J, L', pR) = some (some (.int 1), (shR, tkJ J T 0 n, j_up L' 20 T 0, pR)) := by
        rw [B256_17_a6, if_neg (nI_nlt (by omega) (by omega)), show (0 : Int32) = nI 0 from rfl, jgo_some (d := e) rfl (tok_r (kd := 0) (at' := n) (v := 0) h27 (by omega))]
        dsimp only [Option.toList_some, Option.toList_none, List.cons_append, List.nil_append]
        rw [B256_337_a6, if_pos bl_1]
      have e2 : jv (d + 4) 3 21 [some (.ref 27), some (.ref 1), some (.int (nI n)), some (.int (nI k)), some (.int (nI i)), o5] [] (shC, I, L, pX pa pb pu pw) = some (none, (shC, j_up (j_up I 28 T 0) 29 T (nI n), L, pX pa pb pu pw)) := by
        have c1 : (nI T).toNatClampNeg = T := nI_clamp (by omega)
        have e3 : jv (d + 4) 3 21 [some (.ref 27), some (.ref 1), some (.int (nI n)), some (.int (nI k)), some (.int (nI i)), o5] [] (shC, I, L, pX pa pb pu pw) = jv (d + 4) 3 80 [some (.ref 27), some (.ref 1), some (.int (nI n)), some (.int (nI k)), some (.int (nI i)), o5] [] (shC, I, L, pX pa pb pu pw) := by
          rw [B3_21_m1, if_neg (show ¬ nI k < nI n from nI_nlt (by omega) (by omega))]
          by_cases z : nI i < nI n
          · rw [if_pos z]
          · rw [if_neg z]
        have g1 : j_up I 28 T 0 27 6 = nI T := by rw [j_up_cell _ (by decide), h6]
        rw [e3, B3_80_m1, h6, c1, g1, c1, if_pos (j_in_nI (by omega) (by decide)), if_pos (j_in_nI (by omega) (by decide))]
      rw [e1, e2]
      refine jW2_some ⟨rfl, _, _, _, _, rfl, rfl, ⟨fun c a1 a2 a3 => ?_, fun q a1 a2 a3 => ?_, fun _ _ => rfl⟩, fTR_tk T 0 n 0, Or.inr ⟨rfl, ?_, ?_, T, K, P, N, by omega, ?_, ?_, fun j hj => ?_, fun j hj => ?_, hG, ?_, ?_, ?_, ?_⟩⟩
      · rw [j_up_cell _ a3, j_up_cell _ a2]
      · rw [j_up_cell _ (by decide), j_up_cell _ (by decide)]
      · rw [j_up_cell _ (by decide), j_up_cell _ (by decide), hf]
      · unfold tkJ; rw [j_up_own, if_neg (by decide), j_up_cell _ (by decide), j_up_cell _ (by decide), hg]
      · rw [j_up_cell _ (by decide), j_up_cell _ (by decide), h6]
      · unfold tkJ; rw [j_up_own, if_pos rfl]
      · rw [j_up_cell _ (by decide), j_up_own, if_neg (by omega), j_up_own, if_neg (by omega), j_up_cell _ (by decide)]; exact hA j hj
      · unfold tkJ; rw [j_up_cell _ (by decide), j_up_cell _ (by decide), j_up_own, if_neg (by omega), j_up_cell _ (by decide), j_up_own, if_neg (by omega), j_up_cell _ (by decide), j_up_own, if_neg (by omega)]; exact hB j hj
      · rw [j_up_cell _ (by decide), j_up_own, if_pos rfl]
      · rw [j_up_own, if_pos rfl]
      · unfold tkJ; rw [j_up_cell _ (by decide), j_up_cell _ (by decide), j_up_own, if_pos rfl]; rfl
      · unfold tkJ; rw [j_up_cell _ (by decide), j_up_own, if_pos rfl]
    have hb := (txB_eq m k).2
    have e1 : ∀ x, x < 256 → (nI (txB m k) = nI x ↔ txB m k = x) := fun x hx => nI_eq (by omega) (by omega)
    have st : jv (d + 4) 3 21 [some (.ref 27), some (.ref 1), some (.int (nI n)), some (.int (nI k)), some (.int (nI i)), o5] [] (shC, I, L, pX pa pb pu pw) = jv (d + 4) 3 44 [some (.ref 27), some (.ref 1), some (.int (nI n)), some (.int (nI k)), some (.int (nI i)), o5] [.int (nI (txB m k))] (shC, I, L, pX pa pb pu pw) := by
      rw [B3_21_m1, if_pos (nI_lt (by omega) (by omega)), if_pos (nI_lt (by omega) (by omega)), if_pos hf, jgo_some (d := d + 3) rfl (tb1_c hI (by omega))]
      rfl
    by_cases q1 : txB m k = 32 ∨ txB m k = 10
    · have c1 : jv (d + 4) 3 21 [some (.ref 27), some (.ref 1), some (.int (nI n)), some (.int (nI k)), some (.int (nI i)), o5] [] (shC, I, L, pX pa pb pu pw) = jv (d + 4) 3 21 [some (.ref 27), some (.ref 1), some (.int (nI n)), some (.int (nI (k + 1))), some (.int (nI (i + 1))), some (.int (nI (txB m k)))] [] (shC, I, L, pX pa pb pu pw) := by
        rw [st, B3_44_m1]
        rcases q1 with z | z
        · rw [if_pos (show nI (txB m k) = 32 from (e1 32 (by decide)).mpr z), B3_61_m1, B3_72_m1, show nI k + 1 = nI (k + 1) from nI_add k 1, show nI i + 1 = nI (i + 1) from nI_add i 1]
        · rw [if_neg (show ¬ nI (txB m k) = 32 from fun y => by have := (e1 32 (by decide)).mp y; omega), if_pos (show nI (txB m k) = 10 from (e1 10 (by decide)).mpr z), B3_61_m1, B3_72_m1, show nI k + 1 = nI (k + 1) from nI_add k 1, show nI i + 1 = nI (i + 1) from nI_add i 1]
      have c2 : jv (e + 1) 256 17 [some (.ref 0), some (.ref 6), some (.int (nI n)), some (.int (nI k)), p4, p5, p6, p7, p8] [] (shR, J, L', pR) = jv (e + 1) 256 17 [some (.ref 0), some (.ref 6), some (.int (nI n)), some (.int (nI (k + 1))), some (.int (nI (txB m k))), p5, p6, p7, p8] [] (shR, J, L', pR) := by
        rw [B256_17_a6, if_pos (nI_lt (by omega) (by omega)), jgo_some (d := e) rfl (tb6_r hJ hr (by omega))]
        dsimp only [Option.toList_some, Option.toList_none, List.cons_append, List.nil_append]
        rw [B256_28_a6]
        rcases q1 with z | z
        · rw [if_pos (show nI (txB m k) = 32 from (e1 32 (by decide)).mpr z), B256_44_a6, show nI k + 1 = nI (k + 1) from nI_add k 1]
        · rw [if_neg (show ¬ nI (txB m k) = 32 from fun y => by have := (e1 32 (by decide)).mp y; omega), if_pos (show nI (txB m k) = 10 from (e1 10 (by decide)).mpr z), B256_44_a6, show nI k + 1 = nI (k + 1) from nI_add k 1]
      rw [c1, c2]
      exact ih (r - 1) (by omega) (k + 1) T K P N (i + 1) I J L L' _ _ _ _ _ _ (by omega) (by omega) (by omega) hI hJ hr hf hg h6 h27 hA hB hG
    -- a token: what follows it
    have nx : ∀ (kd kd' l : Nat) (v w : Int64), 1 ≤ l → k + l ≤ n → v = cV m kd k l → w = rV m kd k l → kd' = kR kd → tkOk m n kd k l → jv (d + 3) 4 0 [some (.ref 27), some (.ref 1), some (.int (nI k)), some (.int (nI n)), none, none, none, none, none, none, none, none] [] (shC, I, L, pX pa pb pu pw) = some (some (.int (nI l)), (shC, tkI I T kd k, j_up L 30 T v, pX pa pb pu pw)) → (∃ p4' p5' p6' p7' p8', jv (e + 1) 256 17 [some (.ref 0), some (.ref 6), some (.int (nI n)), some (.int (nI k)), p4, p5, p6, p7, p8] [] (shR, J, L', pR) = jv (e + 1) 256 17 [some (.ref 0), some (.ref 6), some (.int (nI n)), some (.int (nI (k + l))), p4', p5', p6', p7', p8'] [] (shR, tkJ J T kd' k, j_up L' 20 T w, pR)) → jW2 (jv (d + 4) 3 21 [some (.ref 27), some (.ref 1), some (.int (nI n)), some (.int (nI k)), some (.int (nI i)), o5] [] (shC, I, L, pX pa pb pu pw)) (jv (e + 1) 256 17 [some (.ref 0), some (.ref 6), some (.int (nI n)), some (.int (nI k)), p4, p5, p6, p7, p8] [] (shR, J, L', pR)) (tkQ m n (pX pa pb pu pw) I J L L') := by
      intro kd kd' l v w hl hkl hv hw hkd hok hc ⟨p4', p5', p6', p7', p8', hrf⟩
      rw [hrf, st, B3_44_m1, if_neg (show ¬ nI (txB m k) = 32 from fun y => q1 (Or.inl ((e1 32 (by decide)).mp y))), if_neg (show ¬ nI (txB m k) = 10 from fun y => q1 (Or.inr ((e1 10 (by decide)).mp y))), jgo_some (d := d + 3) rfl hc]
      dsimp only [Option.toList_some, Option.toList_none, List.cons_append, List.nil_append]
      rw [B3_72_m1, nI_add, show nI i + 1 = nI (i + 1) from nI_add i 1]
      have f1 := fTC_tk (I := I) (L := L) T kd k v
      have f2 := fTR_tk (J := J) (L' := L') T kd' k w
      refine jW2_mono (ih (r - l) (by omega) (k + l) (T + 1) (upN K T kd) (upN P T k) (upN N T l) (i + 1) _ _ _ _ _ _ _ _ _ _ (by omega) (by omega) (by omega) (fun q hq => by rw [f1.1 _ (by decide) (by decide) (by decide)]; exact hI q hq) (fun q hq => by rw [f2.1 _ (by decide) (by decide) (by decide)]; exact hJ q hq) (rCst_eq1 hr (fun c h0 hc => f2.1 c h0 (by omega) (by omega))) ?_ ?_ ?_ ?_ (tkA_push hA hv) (tkB_push hB hw hkd) (tkG_push hG hok)) (fun _ _ _ _ z => tkQ.mono f1 f2 z)
      · unfold tkI; rw [j_up_own, if_neg (by decide), j_up_cell _ (by decide), j_up_cell _ (by decide), hf]
      · unfold tkJ; rw [j_up_own, if_neg (by decide), j_up_cell _ (by decide), j_up_cell _ (by decide), hg]
      · unfold tkI; rw [j_up_own, if_pos rfl]
      · unfold tkJ; rw [j_up_own, if_pos rfl]
    have fl : ∀ (l : Nat), jv (d + 3) 4 0 [some (.ref 27), some (.ref 1), some (.int (nI k)), some (.int (nI n)), none, none, none, none, none, none, none, none] [] (shC, I, L, pX pa pb pu pw) = some (some (.int (nI l)), (shC, j_up (j_up I 27 0 1) 27 1 (nI k), L, pX pa pb pu pw)) → jv (e + 1) 256 17 [some (.ref 0), some (.ref 6), some (.int (nI n)), some (.int (nI k)), p4, p5, p6, p7, p8] [] (shR, J, L', pR) = some (some (.int 0), (shR, j_up (j_up J 0 29 1) 0 30 (nI k), L', pR)) → jW2 (jv (d + 4) 3 21 [some (.ref 27), some (.ref 1), some (.int (nI n)), some (.int (nI k)), some (.int (nI i)), o5] [] (shC, I, L, pX pa pb pu pw)) (jv (e + 1) 256 17 [some (.ref 0), some (.ref 6), some (.int (nI n)), some (.int (nI k)), p4, p5, p6, p7, p8] [] (shR, J, L', pR)) (tkQ m n (pX pa pb pu pw) I J L L') := by
      intro l hc hrf
      have c1 : (nI T).toNatClampNeg = T := nI_clamp (by omega)
      have u0 : j_up (j_up I 27 0 1) 27 1 (nI k) 27 0 = 1 := by rw [j_up_own, if_neg (by decide), j_up_own, if_pos rfl]
      have u6 : j_up (j_up I 27 0 1) 27 1 (nI k) 27 6 = nI T := by rw [j_up_own, if_neg (by decide), j_up_own, if_neg (by decide), h6]
      rw [hrf, st, B3_44_m1, if_neg (show ¬ nI (txB m k) = 32 from fun y => q1 (Or.inl ((e1 32 (by decide)).mp y))), if_neg (show ¬ nI (txB m k) = 10 from fun y => q1 (Or.inr ((e1 10 (by decide)).mp y))), jgo_some (d := d + 3) rfl hc]
      dsimp only [Option.toList_some, Option.toList_none, List.cons_append, List.nil_append]
      have e3 : ∀ (x y : Int32) o, jv (d + 4) 3 21 [some (.ref 27), some (.ref 1), some (.int (nI n)), some (.int x), some (.int y), o] [] (shC, j_up (j_up I 27 0 1) 27 1 (nI k), L, pX pa pb pu pw) = jv (d + 4) 3 80 [some (.ref 27), some (.ref 1), some (.int (nI n)), some (.int x), some (.int y), o] [] (shC, j_up (j_up I 27 0 1) 27 1 (nI k), L, pX pa pb pu pw) := by
        intro x y o
        rw [B3_21_m1, u0, if_neg (show ¬ (1 : Int32) = 0 by decide)]
        by_cases z : y < nI n
        · rw [if_pos z]
          by_cases z2 : x < nI n
          · rw [if_pos z2]
          · rw [if_neg z2]
        · rw [if_neg z]
      have g1 : j_up (j_up (j_up I 27 0 1) 27 1 (nI k)) 28 T 0 27 6 = nI T := by rw [j_up_cell _ (by decide), u6]
      rw [B3_72_m1, e3, B3_80_m1, u6, c1, g1, c1, if_pos (j_in_nI (by omega) (by decide)), if_pos (j_in_nI (by omega) (by decide))]
      refine jW2_some ⟨rfl, _, _, _, _, rfl, rfl, ⟨fun c a1 a2 a3 => ?_, fun q a1 a2 a3 => ?_, fun _ _ => rfl⟩, ⟨fun c a1 a2 a3 => ?_, fun q a1 a2 a3 => ?_, fun _ _ => rfl⟩, Or.inl ⟨rfl, k, ?_, ?_, ?_, ?_⟩⟩
      · rw [j_up_cell _ a3, j_up_cell _ a2, j_up_cell _ a1, j_up_cell _ a1]
      · rw [j_up_cell _ (by decide), j_up_cell _ (by decide), j_up_own, if_neg a2, j_up_own, if_neg a1]
      · rw [j_up_cell _ a1, j_up_cell _ a1]
      · rw [j_up_own, if_neg a3, j_up_own, if_neg a2]
      · rw [j_up_cell _ (by decide), j_up_cell _ (by decide), u0]
      · rw [j_up_cell _ (by decide), j_up_cell _ (by decide), j_up_own, if_pos rfl]
      · rw [j_up_own, if_neg (by decide), j_up_own, if_pos rfl]
      · rw [j_up_own, if_pos rfl]
    by_cases q2 : isL (txB m k)
    · obtain ⟨l, l1, l2, l3⟩ := run_ex (fun x => isL (txB m x)) (k := k) (n := n) (by omega)
      have l4 : 1 ≤ l := Nat.pos_of_ne_zero (fun z => by subst z; rcases l3 with z | z; · omega
                                                         · exact z q2)
      have hc := tokW_c1 (d := d) (L := L) (pa := pa) (pb := pb) (pu := pu) (pw := pw) hI (at' := k) h6 (by omega) hn l1 l4 l2 l3
      have hrf := rW6 (e := e) (L' := L') hJ hr hg (at' := k) h27 (by omega) hn l1 l4 l2 l3 p4 p5 p6 p7 p8
      by_cases q3 : 8 < l
      · rw [if_pos q3] at hc
        exact fl l hc (hrf.1 q3)
      · rw [if_neg q3] at hc
        exact nx 97 1 l _ _ l4 l1 rfl rfl rfl ⟨l1, l4, Or.inl ⟨rfl, by omega, l2⟩⟩ hc (hrf.2 (by omega))
    by_cases q3 : isD (txB m k)
    · obtain ⟨l, l1, l2, l3⟩ := run_ex (fun x => isD (txB m x)) (k := k) (n := n) (by omega)
      have l4 : 1 ≤ l := Nat.pos_of_ne_zero (fun z => by subst z; rcases l3 with z | z; · omega
                                                         · exact z q3)
      have hc := tokN_c1 (d := d) (L := L) (pa := pa) (pb := pb) (pu := pu) (pw := pw) hI (at' := k) h6 (by omega) hn l1 l4 l2 l3
      have hrf := rN6 (e := e) (L' := L') hJ hr hg (at' := k) h27 (by omega) hn l1 l4 l2 l3 p4 p5 p6 p7 p8
      by_cases q4 : 9 < l
      · rw [if_pos q4] at hc
        exact fl l hc (hrf.1 q4)
      · rw [if_neg q4] at hc
        exact nx 48 2 l _ _ l4 l1 rfl rfl rfl ⟨l1, l4, Or.inr (Or.inl ⟨rfl, by omega, l2⟩)⟩ hc (hrf.2 (by omega))
    have hc := tokS_c1 (d := d) (L := L) (pa := pa) (pb := pb) (pu := pu) (pw := pw) hI (at' := k) h6 (by omega) hn (by omega) q2 q3
    have hrf := rS6 (e := e) (L' := L') hJ hr hg (at' := k) h27 (by omega) hn (by omega) q2 q3 (fun z => q1 (Or.inl z)) (fun z => q1 (Or.inr z)) p4 p5 p6 p7 p8
    by_cases q4 : txB m k ∈ sgL
    · rw [if_pos q4] at hc
      obtain ⟨s1, s2, s3⟩ := sgK_ok (m := m) (show k < n by omega) q4
      exact nx (sgK m n k) _ (sgN m n k) _ _ s1.2.1 s1.1 (by unfold cV; rw [if_neg s2, if_neg s3]) (by unfold rV; rw [if_neg s2, if_neg s3]) rfl s1 hc (hrf.2 q4)
    · rw [if_neg q4] at hc
      exact fl _ hc (hrf.1 q4)
theorem tok_all3 {n : Nat} (hn : n ≤ 1200) : ∀ (r k T : Nat) (K P N : Nat → Nat) (i : Nat) (I J : Nat → Nat → Int32) (L L' : Nat → Nat → Int64) (o5 p4 p5 p6 p7 p8 : Option Value), k + r = n → T ≤ k → i ≤ k → (∀ q, q < 1189 → I 4 q = m q) → (∀ q, q < 1189 → J 7 q = m q) → rCst J → I 27 0 = 0 → J 0 29 = 0 → I 27 6 = nI T → J 0 27 = nI T → tkA m K P N T I L → tkB m K P N T J L' → tkG m n K P N T → jW2 (jv (d + 4) 3 21 [some (.ref 27), some (.ref 3), some (.int (nI n)), some (.int (nI k)), some (.int (nI i)), o5] [] (shC, I, L, pX pa pb pu pw)) (jv (e + 1) 256 17 [some (.ref 0), some (.ref 7), some (.int (nI n)), some (.int (nI k)), p4, p5, p6, p7, p8] [] (shR, J, L', pR)) (tkQ m n (pX pa pb pu pw) I J L L') := by
  intro r
  induction r using Nat.strongRecOn with
  | ind r ih =>
    intro k T K P N i I J L L' o5 p4 p5 p6 p7 p8 hk hT hi hI hJ hr hf hg h6 h27 hA hB hG
    by_cases q0 : r = 0
    · have e1 : jv (e + 1) 256 17 [some (.ref 0), some (.ref 7), some (.int (nI n)), some (.int (nI k)), p4, p5, p6, p7, p8] [] (shR, J, L', pR) = some (some (.int 1), (shR, tkJ J T 0 n, j_up L' 20 T 0, pR)) := by
        rw [B256_17_a7, if_neg (nI_nlt (by omega) (by omega)), show (0 : Int32) = nI 0 from rfl, jgo_some (d := e) rfl (tok_r (kd := 0) (at' := n) (v := 0) h27 (by omega))]
        dsimp only [Option.toList_some, Option.toList_none, List.cons_append, List.nil_append]
        rw [B256_337_a7, if_pos bl_1]
      have e2 : jv (d + 4) 3 21 [some (.ref 27), some (.ref 3), some (.int (nI n)), some (.int (nI k)), some (.int (nI i)), o5] [] (shC, I, L, pX pa pb pu pw) = some (none, (shC, j_up (j_up I 28 T 0) 29 T (nI n), L, pX pa pb pu pw)) := by
        have c1 : (nI T).toNatClampNeg = T := nI_clamp (by omega)
        have e3 : jv (d + 4) 3 21 [some (.ref 27), some (.ref 3), some (.int (nI n)), some (.int (nI k)), some (.int (nI i)), o5] [] (shC, I, L, pX pa pb pu pw) = jv (d + 4) 3 80 [some (.ref 27), some (.ref 3), some (.int (nI n)), some (.int (nI k)), some (.int (nI i)), o5] [] (shC, I, L, pX pa pb pu pw) := by
          rw [B3_21_m3, if_neg (show ¬ nI k < nI n from nI_nlt (by omega) (by omega))]
          by_cases z : nI i < nI n
          · rw [if_pos z]
          · rw [if_neg z]
        have g1 : j_up I 28 T 0 27 6 = nI T := by rw [j_up_cell _ (by decide), h6]
        rw [e3, B3_80_m3, h6, c1, g1, c1, if_pos (j_in_nI (by omega) (by decide)), if_pos (j_in_nI (by omega) (by decide))]
      rw [e1, e2]
      refine jW2_some ⟨rfl, _, _, _, _, rfl, rfl, ⟨fun c a1 a2 a3 => ?_, fun q a1 a2 a3 => ?_, fun _ _ => rfl⟩, fTR_tk T 0 n 0, Or.inr ⟨rfl, ?_, ?_, T, K, P, N, by omega, ?_, ?_, fun j hj => ?_, fun j hj => ?_, hG, ?_, ?_, ?_, ?_⟩⟩
      · rw [j_up_cell _ a3, j_up_cell _ a2]
      · rw [j_up_cell _ (by decide), j_up_cell _ (by decide)]
      · rw [j_up_cell _ (by decide), j_up_cell _ (by decide), hf]
      · unfold tkJ; rw [j_up_own, if_neg (by decide), j_up_cell _ (by decide), j_up_cell _ (by decide), hg]
      · rw [j_up_cell _ (by decide), j_up_cell _ (by decide), h6]
      · unfold tkJ; rw [j_up_own, if_pos rfl]
      · rw [j_up_cell _ (by decide), j_up_own, if_neg (by omega), j_up_own, if_neg (by omega), j_up_cell _ (by decide)]; exact hA j hj
      · unfold tkJ; rw [j_up_cell _ (by decide), j_up_cell _ (by decide), j_up_own, if_neg (by omega), j_up_cell _ (by decide), j_up_own, if_neg (by omega), j_up_cell _ (by decide), j_up_own, if_neg (by omega)]; exact hB j hj
      · rw [j_up_cell _ (by decide), j_up_own, if_pos rfl]
      · rw [j_up_own, if_pos rfl]
      · unfold tkJ; rw [j_up_cell _ (by decide), j_up_cell _ (by decide), j_up_own, if_pos rfl]; rfl
      · unfold tkJ; rw [j_up_cell _ (by decide), j_up_own, if_pos rfl]
    have hb := (txB_eq m k).2
    have e1 : ∀ x, x < 256 → (nI (txB m k) = nI x ↔ txB m k = x) := fun x hx => nI_eq (by omega) (by omega)
    have st : jv (d + 4) 3 21 [some (.ref 27), some (.ref 3), some (.int (nI n)), some (.int (nI k)), some (.int (nI i)), o5] [] (shC, I, L, pX pa pb pu pw) = jv (d + 4) 3 44 [some (.ref 27), some (.ref 3), some (.int (nI n)), some (.int (nI k)), some (.int (nI i)), o5] [.int (nI (txB m k))] (shC, I, L, pX pa pb pu pw) := by
      rw [B3_21_m3, if_pos (nI_lt (by omega) (by omega)), if_pos (nI_lt (by omega) (by omega)), if_pos hf, jgo_some (d := d + 3) rfl (tb3_c hI (by omega))]
      rfl
    by_cases q1 : txB m k = 32 ∨ txB m k = 10
    · have c1 : jv (d + 4) 3 21 [some (.ref 27), some (.ref 3), some (.int (nI n)), some (.int (nI k)), some (.int (nI i)), o5] [] (shC, I, L, pX pa pb pu pw) = jv (d + 4) 3 21 [some (.ref 27), some (.ref 3), some (.int (nI n)), some (.int (nI (k + 1))), some (.int (nI (i + 1))), some (.int (nI (txB m k)))] [] (shC, I, L, pX pa pb pu pw) := by
        rw [st, B3_44_m3]
        rcases q1 with z | z
        · rw [if_pos (show nI (txB m k) = 32 from (e1 32 (by decide)).mpr z), B3_61_m3, B3_72_m3, show nI k + 1 = nI (k + 1) from nI_add k 1, show nI i + 1 = nI (i + 1) from nI_add i 1]
        · rw [if_neg (show ¬ nI (txB m k) = 32 from fun y => by have := (e1 32 (by decide)).mp y; omega), if_pos (show nI (txB m k) = 10 from (e1 10 (by decide)).mpr z), B3_61_m3, B3_72_m3, show nI k + 1 = nI (k + 1) from nI_add k 1, show nI i + 1 = nI (i + 1) from nI_add i 1]
      have c2 : jv (e + 1) 256 17 [some (.ref 0), some (.ref 7), some (.int (nI n)), some (.int (nI k)), p4, p5, p6, p7, p8] [] (shR, J, L', pR) = jv (e + 1) 256 17 [some (.ref 0), some (.ref 7), some (.int (nI n)), some (.int (nI (k + 1))), some (.int (nI (txB m k))), p5, p6, p7, p8] [] (shR, J, L', pR) := by
        rw [B256_17_a7, if_pos (nI_lt (by omega) (by omega)), jgo_some (d := e) rfl (tb7_r hJ hr (by omega))]
        dsimp only [Option.toList_some, Option.toList_none, List.cons_append, List.nil_append]
        rw [B256_28_a7]
        rcases q1 with z | z
        · rw [if_pos (show nI (txB m k) = 32 from (e1 32 (by decide)).mpr z), B256_44_a7, show nI k + 1 = nI (k + 1) from nI_add k 1]
        · rw [if_neg (show ¬ nI (txB m k) = 32 from fun y => by have := (e1 32 (by decide)).mp y; omega), if_pos (show nI (txB m k) = 10 from (e1 10 (by decide)).mpr z), B256_44_a7, show nI k + 1 = nI (k + 1) from nI_add k 1]
      rw [c1, c2]
      exact ih (r - 1) (by omega) (k + 1) T K P N (i + 1) I J L L' _ _ _ _ _ _ (by omega) (by omega) (by omega) hI hJ hr hf hg h6 h27 hA hB hG
    -- a token: what follows it
    have nx : ∀ (kd kd' l : Nat) (v w : Int64), 1 ≤ l → k + l ≤ n → v = cV m kd k l → w = rV m kd k l → kd' = kR kd → tkOk m n kd k l → jv (d + 3) 4 0 [some (.ref 27), some (.ref 3), some (.int (nI k)), some (.int (nI n)), none, none, none, none, none, none, none, none] [] (shC, I, L, pX pa pb pu pw) = some (some (.int (nI l)), (shC, tkI I T kd k, j_up L 30 T v, pX pa pb pu pw)) → (∃ p4' p5' p6' p7' p8', jv (e + 1) 256 17 [some (.ref 0), some (.ref 7), some (.int (nI n)), some (.int (nI k)), p4, p5, p6, p7, p8] [] (shR, J, L', pR) = jv (e + 1) 256 17 [some (.ref 0), some (.ref 7), some (.int (nI n)), some (.int (nI (k + l))), p4', p5', p6', p7', p8'] [] (shR, tkJ J T kd' k, j_up L' 20 T w, pR)) → jW2 (jv (d + 4) 3 21 [some (.ref 27), some (.ref 3), some (.int (nI n)), some (.int (nI k)), some (.int (nI i)), o5] [] (shC, I, L, pX pa pb pu pw)) (jv (e + 1) 256 17 [some (.ref 0), some (.ref 7), some (.int (nI n)), some (.int (nI k)), p4, p5, p6, p7, p8] [] (shR, J, L', pR)) (tkQ m n (pX pa pb pu pw) I J L L') := by
      intro kd kd' l v w hl hkl hv hw hkd hok hc ⟨p4', p5', p6', p7', p8', hrf⟩
      rw [hrf, st, B3_44_m3, if_neg (show ¬ nI (txB m k) = 32 from fun y => q1 (Or.inl ((e1 32 (by decide)).mp y))), if_neg (show ¬ nI (txB m k) = 10 from fun y => q1 (Or.inr ((e1 10 (by decide)).mp y))), jgo_some (d := d + 3) rfl hc]
      dsimp only [Option.toList_some, Option.toList_none, List.cons_append, List.nil_append]
      rw [B3_72_m3, nI_add, show nI i + 1 = nI (i + 1) from nI_add i 1]
      have f1 := fTC_tk (I := I) (L := L) T kd k v
      have f2 := fTR_tk (J := J) (L' := L') T kd' k w
      refine jW2_mono (ih (r - l) (by omega) (k + l) (T + 1) (upN K T kd) (upN P T k) (upN N T l) (i + 1) _ _ _ _ _ _ _ _ _ _ (by omega) (by omega) (by omega) (fun q hq => by rw [f1.1 _ (by decide) (by decide) (by decide)]; exact hI q hq) (fun q hq => by rw [f2.1 _ (by decide) (by decide) (by decide)]; exact hJ q hq) (rCst_eq1 hr (fun c h0 hc => f2.1 c h0 (by omega) (by omega))) ?_ ?_ ?_ ?_ (tkA_push hA hv) (tkB_push hB hw hkd) (tkG_push hG hok)) (fun _ _ _ _ z => tkQ.mono f1 f2 z)
      · unfold tkI; rw [j_up_own, if_neg (by decide), j_up_cell _ (by decide), j_up_cell _ (by decide), hf]
      · unfold tkJ; rw [j_up_own, if_neg (by decide), j_up_cell _ (by decide), j_up_cell _ (by decide), hg]
      · unfold tkI; rw [j_up_own, if_pos rfl]
      · unfold tkJ; rw [j_up_own, if_pos rfl]
    have fl : ∀ (l : Nat), jv (d + 3) 4 0 [some (.ref 27), some (.ref 3), some (.int (nI k)), some (.int (nI n)), none, none, none, none, none, none, none, none] [] (shC, I, L, pX pa pb pu pw) = some (some (.int (nI l)), (shC, j_up (j_up I 27 0 1) 27 1 (nI k), L, pX pa pb pu pw)) → jv (e + 1) 256 17 [some (.ref 0), some (.ref 7), some (.int (nI n)), some (.int (nI k)), p4, p5, p6, p7, p8] [] (shR, J, L', pR) = some (some (.int 0), (shR, j_up (j_up J 0 29 1) 0 30 (nI k), L', pR)) → jW2 (jv (d + 4) 3 21 [some (.ref 27), some (.ref 3), some (.int (nI n)), some (.int (nI k)), some (.int (nI i)), o5] [] (shC, I, L, pX pa pb pu pw)) (jv (e + 1) 256 17 [some (.ref 0), some (.ref 7), some (.int (nI n)), some (.int (nI k)), p4, p5, p6, p7, p8] [] (shR, J, L', pR)) (tkQ m n (pX pa pb pu pw) I J L L') := by
      intro l hc hrf
      have c1 : (nI T).toNatClampNeg = T := nI_clamp (by omega)
      have u0 : j_up (j_up I 27 0 1) 27 1 (nI k) 27 0 = 1 := by rw [j_up_own, if_neg (by decide), j_up_own, if_pos rfl]
      have u6 : j_up (j_up I 27 0 1) 27 1 (nI k) 27 6 = nI T := by rw [j_up_own, if_neg (by decide), j_up_own, if_neg (by decide), h6]
      rw [hrf, st, B3_44_m3, if_neg (show ¬ nI (txB m k) = 32 from fun y => q1 (Or.inl ((e1 32 (by decide)).mp y))), if_neg (show ¬ nI (txB m k) = 10 from fun y => q1 (Or.inr ((e1 10 (by decide)).mp y))), jgo_some (d := d + 3) rfl hc]
      dsimp only [Option.toList_some, Option.toList_none, List.cons_append, List.nil_append]
      have e3 : ∀ (x y : Int32) o, jv (d + 4) 3 21 [some (.ref 27), some (.ref 3), some (.int (nI n)), some (.int x), some (.int y), o] [] (shC, j_up (j_up I 27 0 1) 27 1 (nI k), L, pX pa pb pu pw) = jv (d + 4) 3 80 [some (.ref 27), some (.ref 3), some (.int (nI n)), some (.int x), some (.int y), o] [] (shC, j_up (j_up I 27 0 1) 27 1 (nI k), L, pX pa pb pu pw) := by
        intro x y o
        rw [B3_21_m3, u0, if_neg (show ¬ (1 : Int32) = 0 by decide)]
        by_cases z : y < nI n
        · rw [if_pos z]
          by_cases z2 : x < nI n
          · rw [if_pos z2]
          · rw [if_neg z2]
        · rw [if_neg z]
      have g1 : j_up (j_up (j_up I 27 0 1) 27 1 (nI k)) 28 T 0 27 6 = nI T := by rw [j_up_cell _ (by decide), u6]
      rw [B3_72_m3, e3, B3_80_m3, u6, c1, g1, c1, if_pos (j_in_nI (by omega) (by decide)), if_pos (j_in_nI (by omega) (by decide))]
      refine jW2_some ⟨rfl, _, _, _, _, rfl, rfl, ⟨fun c a1 a2 a3 => ?_, fun q a1 a2 a3 => ?_, fun _ _ => rfl⟩, ⟨fun c a1 a2 a3 => ?_, fun q a1 a2 a3 => ?_, fun _ _ => rfl⟩, Or.inl ⟨rfl, k, ?_, ?_, ?_, ?_⟩⟩
      · rw [j_up_cell _ a3, j_up_cell _ a2, j_up_cell _ a1, j_up_cell _ a1]
      · rw [j_up_cell _ (by decide), j_up_cell _ (by decide), j_up_own, if_neg a2, j_up_own, if_neg a1]
      · rw [j_up_cell _ a1, j_up_cell _ a1]
      · rw [j_up_own, if_neg a3, j_up_own, if_neg a2]
      · rw [j_up_cell _ (by decide), j_up_cell _ (by decide), u0]
      · rw [j_up_cell _ (by decide), j_up_cell _ (by decide), j_up_own, if_pos rfl]
      · rw [j_up_own, if_neg (by decide), j_up_own, if_pos rfl]
      · rw [j_up_own, if_pos rfl]
    by_cases q2 : isL (txB m k)
    · obtain ⟨l, l1, l2, l3⟩ := run_ex (fun x => isL (txB m x)) (k := k) (n := n) (by omega)
      have l4 : 1 ≤ l := Nat.pos_of_ne_zero (fun z => by subst z; rcases l3 with z | z; · omega
                                                         · exact z q2)
      have hc := tokW_c3 (d := d) (L := L) (pa := pa) (pb := pb) (pu := pu) (pw := pw) hI (at' := k) h6 (by omega) hn l1 l4 l2 l3
      have hrf := rW7 (e := e) (L' := L') hJ hr hg (at' := k) h27 (by omega) hn l1 l4 l2 l3 p4 p5 p6 p7 p8
      by_cases q3 : 8 < l
      · rw [if_pos q3] at hc
        exact fl l hc (hrf.1 q3)
      · rw [if_neg q3] at hc
        exact nx 97 1 l _ _ l4 l1 rfl rfl rfl ⟨l1, l4, Or.inl ⟨rfl, by omega, l2⟩⟩ hc (hrf.2 (by omega))
    by_cases q3 : isD (txB m k)
    · obtain ⟨l, l1, l2, l3⟩ := run_ex (fun x => isD (txB m x)) (k := k) (n := n) (by omega)
      have l4 : 1 ≤ l := Nat.pos_of_ne_zero (fun z => by subst z; rcases l3 with z | z; · omega
                                                         · exact z q3)
      have hc := tokN_c3 (d := d) (L := L) (pa := pa) (pb := pb) (pu := pu) (pw := pw) hI (at' := k) h6 (by omega) hn l1 l4 l2 l3
      have hrf := rN7 (e := e) (L' := L') hJ hr hg (at' := k) h27 (by omega) hn l1 l4 l2 l3 p4 p5 p6 p7 p8
      by_cases q4 : 9 < l
      · rw [if_pos q4] at hc
        exact fl l hc (hrf.1 q4)
      · rw [if_neg q4] at hc
        exact nx 48 2 l _ _ l4 l1 rfl rfl rfl ⟨l1, l4, Or.inr (Or.inl ⟨rfl, by omega, l2⟩)⟩ hc (hrf.2 (by omega))
    have hc := tokS_c3 (d := d) (L := L) (pa := pa) (pb := pb) (pu := pu) (pw := pw) hI (at' := k) h6 (by omega) hn (by omega) q2 q3
    have hrf := rS7 (e := e) (L' := L') hJ hr hg (at' := k) h27 (by omega) hn (by omega) q2 q3 (fun z => q1 (Or.inl z)) (fun z => q1 (Or.inr z)) p4 p5 p6 p7 p8
    by_cases q4 : txB m k ∈ sgL
    · rw [if_pos q4] at hc
      obtain ⟨s1, s2, s3⟩ := sgK_ok (m := m) (show k < n by omega) q4
      exact nx (sgK m n k) _ (sgN m n k) _ _ s1.2.1 s1.1 (by unfold cV; rw [if_neg s2, if_neg s3]) (by unfold rV; rw [if_neg s2, if_neg s3]) rfl s1 hc (hrf.2 q4)
    · rw [if_neg q4] at hc
      exact fl _ hc (hrf.1 q4)
end TOKD
