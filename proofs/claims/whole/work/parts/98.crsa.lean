/-! RULES: the text on trial in the first, the text kept in the second -/
section CRSA
section
variable {d e : Nat} {I J : Nat → Nat → Int32} {L L' : Nat → Nat → Int64} {pa pb pu pw : Option Nat} {m : Nat → Int32}
theorem tok_all36 {n : Nat} (hn : n ≤ 1200) : ∀ (r k T : Nat) (K P N : Nat → Nat) (i : Nat) (I J : Nat → Nat → Int32) (L L' : Nat → Nat → Int64) (o5 p4 p5 p6 p7 p8 : Option Value), k + r = n → T ≤ k → i ≤ k → (∀ q, q < 1189 → I 4 q = m q) → (∀ q, q < 1189 → J 6 q = m q) → rCst J → I 27 0 = 0 → J 0 29 = 0 → I 27 6 = nI T → J 0 27 = nI T → tkA m K P N T I L → tkB m K P N T J L' → tkG m n K P N T → jW2 (jv (d + 4) 3 21 [some (.ref 27), some (.ref 3), some (.int (nI n)), some (.int (nI k)), some (.int (nI i)), o5] [] (shC, I, L, pX pa pb pu pw)) (jv (e + 1) 256 17 [some (.ref 0), some (.ref 6), some (.int (nI n)), some (.int (nI k)), p4, p5, p6, p7, p8] [] (shR, J, L', pR)) (tkQ m n (pX pa pb pu pw) I J L L') := by
  intro r
  induction r using Nat.strongRecOn with
  | ind r ih =>
    intro k T K P N i I J L L' o5 p4 p5 p6 p7 p8 hk hT hi hI hJ hr hf hg h6 h27 hA hB hG
    by_cases q0 : r = 0
    · have e1 : jv (e + 1) 256 17 [some (.ref 0), some (.ref 6), some (.int (nI n)), some (.int (nI k)), p4, p5, p6, p7, p8] [] (shR, J, L', pR) = some (some (.int 1), (shR, tkJ J T 0 n, j_up L' 20 T 0, pR)) := by
        rw [B256_17_a6, if_neg (nI_nlt (by omega) (by omega)), show (0 : Int32) = nI 0 from rfl, jgo_some (d := e) rfl (tok_r (kd := 0) (at' := n) (v := 0) h27 (by omega))]
        dsimp only [Option.toList_some, Option.toList_none, List.cons_append, List.nil_append]
        rw [B256_337_a6, if_pos bl_1]
      have e2 : jv (d + 4) 3 21 [some (.ref 27), some (.ref 3), some (.int (nI n)), some (.int (nI k)), some (.int (nI i)), o5] [] (shC, I, L, pX pa pb pu pw) = some (none, (shC, j_up (j_up I 28 T 0) 29 T (nI n), L, pX pa pb pu pw)) := by
        have c1 : (nI T).toNatClampNeg = T := nI_clamp (by omega)
        have e3 : jv (d + 4) 3 21 [some (.ref 27), some (.ref 3), some (.int (nI n)), some (.int (nI k)), some (.int (nI i)), o5] [] (shC, I, L, pX pa pb pu pw) = jv (d + 4) 3 80 [some (.ref 27), some (.ref 3), some (.int (nI n)), some (.int (nI k)), some (.int (nI i)), o5] [] (shC, I, L, pX pa pb pu pw) := by
          rw [B3_21_m3, if_neg (show ¬ nI k < nI n from nI_nlt (by omega) (by omega))]
          by_cases z : nI i < nI n
          · rw [if_pos z]
          · rw [if_neg z]
        have g1 : j_up I 28 T 0 27 6 = nI T := by rw [j_up_cell _ (by decide), h6]
        rw [e3, B3_80_m3, h6, c1, g1, c1, if_pos (j_in_nI (by omega) (by decide)), if_pos (j_in_nI (by omega) (by decide))]
      rw [e1, e2]
      refine jW2_some ⟨rfl, _, _, _, _, rfl, rfl, ⟨fun c a1 a2 a3 => ?_, fun q a1 a2 a3 => ?_, fun _ _ => rfl⟩, fTR_tk T 0 n 0, Or.inr ⟨rfl, ?_, ?_, T, K, P, N, by omega, ?_, ?_, fun j hj => ?_, fun j hj => ?_, hG, ?_, ?_, ?_, ?_⟩⟩
      · rw [j_up_cell _ a3, j_up_cell _ a2]
      · rw [j_up_cell _ (by decide), j_up_cell _ (by decide)]
      · rw [j_up_cell _ (by decide), j_up_cell _ (by decide), hf]
      · unfold tkJ; rw [j_up_own, if_neg (by decide), j_up_cell _ (by decide), j_up_cell _ (by decide), hg]
      · rw [j_up_cell _ (by decide), j_up_cell _ (by decide), h6]
      · unfold tkJ; rw [j_up_own, if_pos rfl]
      · rw [j_up_cell _ (by decide), j_up_own, if_neg (by omega), j_up_own, if_neg (by omega), j_up_cell _ (by decide)]; exact hA j hj
      · unfold tkJ; rw [j_up_cell _ (by decide), j_up_cell _ (by decide), j_up_own, if_neg (by omega), j_up_cell _ (by decide), j_up_own, if_neg (by omega), j_up_cell _ (by decide), j_up_own, if_neg (by omega)]; exact hB j hj
      · rw [j_up_cell _ (by decide), j_up_own, if_pos rfl]
      · rw [j_up_own, if_pos rfl]
      · unfold tkJ; rw [j_up_cell _ (by decide), j_up_cell _ (by decide), j_up_own, if_pos rfl]; rfl
      · unfold tkJ; rw [j_up_cell _ (by decide), j_up_own, if_pos rfl]
    have hb := (txB_eq m k).2
    have e1 : ∀ x, x < 256 → (nI (txB m k) = nI x ↔ txB m k = x) := fun x hx => nI_eq (by omega) (by omega)
    have st : jv (d + 4) 3 21 [some (.ref 27), some (.ref 3), some (.int (nI n)), some (.int (nI k)), some (.int (nI i)), o5] [] (shC, I, L, pX pa pb pu pw) = jv (d + 4) 3 44 [some (.ref 27), some (.ref 3), some (.int (nI n)), some (.int (nI k)), some (.int (nI i)), o5] [.int (nI (txB m k))] (shC, I, L, pX pa pb pu pw) := by
      rw [B3_21_m3, if_pos (nI_lt (by omega) (by omega)), if_pos (nI_lt (by omega) (by omega)), if_pos hf, jgo_some (d := d + 3) rfl (tb3_c hI (by omega))]
      rfl
    by_cases q1 : txB m k = 32 ∨ txB m k = 10
    · have c1 : jv (d + 4) 3 21 [some (.ref 27), some (.ref 3), some (.int (nI n)), some (.int (nI k)), some (.int (nI i)), o5] [] (shC, I, L, pX pa pb pu pw) = jv (d + 4) 3 21 [some (.ref 27), some (.ref 3), some (.int (nI n)), some (.int (nI (k + 1))), some (.int (nI (i + 1))), some (.int (nI (txB m k)))] [] (shC, I, L, pX pa pb pu pw) := by
        rw [st, B3_44_m3]
        rcases q1 with z | z
        · rw [if_pos (show nI (txB m k) = 32 from (e1 32 (by decide)).mpr z), B3_61_m3, B3_72_m3, show nI k + 1 = nI (k + 1) from nI_add k 1, show nI i + 1 = nI (i + 1) from nI_add i 1]
        · rw [if_neg (show ¬ nI (txB m k) = 32 from fun y => by have := (e1 32 (by decide)).mp y; omega), if_pos (show nI (txB m k) = 10 from (e1 10 (by decide)).mpr z), B3_61_m3, B3_72_m3, show nI k + 1 = nI (k + 1) from nI_add k 1, show nI i + 1 = nI (i + 1) from nI_add i 1]
      have c2 : jv (e + 1) 256 17 [some (.ref 0), some (.ref 6), some (.int (nI n)), some (.int (nI k)), p4, p5, p6, p7, p8] [] (shR, J, L', pR) = jv (e + 1) 256 17 [some (.ref 0), some (.ref 6), some (.int (nI n)), some (.int (nI (k + 1))), some (.int (nI (txB m k))), p5, p6, p7, p8] [] (shR, J, L', pR) := by
        rw [B256_17_a6, if_pos (nI_lt (by omega) (by omega)), jgo_some (d := e) rfl (tb6_r hJ hr (by omega))]
        dsimp only [Option.toList_some, Option.toList_none, List.cons_append, List.nil_append]
        rw [B256_28_a6]
        rcases q1 with z | z
        · rw [if_pos (show nI (txB m k) = 32 from (e1 32 (by decide)).mpr z), B256_44_a6, show nI k + 1 = nI (k + 1) from nI_add k 1]
        · rw [if_neg (show ¬ nI (txB m k) = 32 from fun y => by have := (e1 32 (by decide)).mp y; omega), if_pos (show nI (txB m k) = 10 from (e1 10 (by decide)).mpr z), B256_44_a6, show nI k + 1 = nI (k + 1) from nI_add k 1]
      rw [c1, c2]
      exact ih (r - 1) (by omega) (k + 1) T K P N (i + 1) I J L L' _ _ _ _ _ _ (by omega) (by omega) (by omega) hI hJ hr hf hg h6 h27 hA hB hG
    -- a token: what follows it
    have nx : ∀ (kd kd' l : Nat) (v w : Int64), 1 ≤ l → k + l ≤ n → v = cV m kd k l → w = rV m kd k l → kd' = kR kd → tkOk m n kd k l → jv (d + 3) 4 0 [some (.ref 27), some (.ref 3), some (.int (nI k)), some (.int (nI n)), none, none, none, none, none, none, none, none] [] (shC, I, L, pX pa pb pu pw) = some (some (.int (nI l)), (shC, tkI I T kd k, j_up L 30 T v, pX pa pb pu pw)) → (∃ p4' p5' p6' p7' p8', jv (e + 1) 256 17 [some (.ref 0), some (.ref 6), some (.int (nI n)), some (.int (nI k)), p4, p5, p6, p7, p8] [] (shR, J, L', pR) = jv (e + 1) 256 17 [some (.ref 0), some (.ref 6), some (.int (nI n)), some (.int (nI (k + l))), p4', p5', p6', p7', p8'] [] (shR, tkJ J T kd' k, j_up L' 20 T w, pR)) → jW2 (jv (d + 4) 3 21 [some (.ref 27), some (.ref 3), some (.int (nI n)), some (.int (nI k)), some (.int (nI i)), o5] [] (shC, I, L, pX pa pb pu pw)) (jv (e + 1) 256 17 [some (.ref 0), some (.ref 6), some (.int (nI n)), some (.int (nI k)), p4, p5, p6, p7, p8] [] (shR, J, L', pR)) (tkQ m n (pX pa pb pu pw) I J L L') := by
      intro kd kd' l v w hl hkl hv hw hkd hok hc ⟨p4', p5', p6', p7', p8', hrf⟩
      rw [hrf, st, B3_44_m3, if_neg (show ¬ nI (txB m k) = 32 from fun y => q1 (Or.inl ((e1 32 (by decide)).mp y))), if_neg (show ¬ nI (txB m k) = 10 from fun y => q1 (Or.inr ((e1 10 (by decide)).mp y))), jgo_some (d := d + 3) rfl hc]
      dsimp only [Option.toList_some, Option.toList_none, List.cons_append, List.nil_append]
      rw [B3_72_m3, nI_add, show nI i + 1 = nI (i + 1) from nI_add i 1]
      have f1 := fTC_tk (I := I) (L := L) T kd k v
      have f2 := fTR_tk (J := J) (L' := L') T kd' k w
      refine jW2_mono (ih (r - l) (by omega) (k + l) (T + 1) (upN K T kd) (upN P T k) (upN N T l) (i + 1) _ _ _ _ _ _ _ _ _ _ (by omega) (by omega) (by omega) (fun q hq => by rw [f1.1 _ (by decide) (by decide) (by decide)]; exact hI q hq) (fun q hq => by rw [f2.1 _ (by decide) (by decide) (by decide)]; exact hJ q hq) (rCst_eq1 hr (fun c h0 hc => f2.1 c h0 (by omega) (by omega))) ?_ ?_ ?_ ?_ (tkA_push hA hv) (tkB_push hB hw hkd) (tkG_push hG hok)) (fun _ _ _ _ z => tkQ.mono f1 f2 z)
      · unfold tkI; rw [j_up_own, if_neg (by decide), j_up_cell _ (by decide), j_up_cell _ (by decide), hf]
      · unfold tkJ; rw [j_up_own, if_neg (by decide), j_up_cell _ (by decide), j_up_cell _ (by decide), hg]
      · unfold tkI; rw [j_up_own, if_pos rfl]
      · unfold tkJ; rw [j_up_own, if_pos rfl]
    have fl : ∀ (l : Nat), jv (d + 3) 4 0 [some (.ref 27), some (.ref 3), some (.int (nI k)), some (.int (nI n)), none, none, none, none, none, none, none, none] [] (shC, I, L, pX pa pb pu pw) = some (some (.int (nI l)), (shC, j_up (j_up I 27 0 1) 27 1 (nI k), L, pX pa pb pu pw)) → jv (e + 1) 256 17 [some (.ref 0), some (.ref 6), some (.int (nI n)), some (.int (nI k)), p4, p5, p6, p7, p8] [] (shR, J, L', pR) = some (some (.int 0), (shR, j_up (j_up J 0 29 1) 0 30 (nI k), L', pR)) → jW2 (jv (d + 4) 3 21 [some (.ref 27), some (.ref 3), some (.int (nI n)), some (.int (nI k)), some (.int (nI i)), o5] [] (shC, I, L, pX pa pb pu pw)) (jv (e + 1) 256 17 [some (.ref 0), some (.ref 6), some (.int (nI n)), some (.int (nI k)), p4, p5, p6, p7, p8] [] (shR, J, L', pR)) (tkQ m n (pX pa pb pu pw) I J L L') := by
      intro l hc hrf
      have c1 : (nI T).toNatClampNeg = T := nI_clamp (by omega)
      have u0 : j_up (j_up I 27 0 1) 27 1 (nI k) 27 0 = 1 := by rw [j_up_own, if_neg (by decide), j_up_own, if_pos rfl]
      have u6 : j_up (j_up I 27 0 1) 27 1 (nI k) 27 6 = nI T := by rw [j_up_own, if_neg (by decide), j_up_own, if_neg (by decide), h6]
      rw [hrf, st, B3_44_m3, if_neg (show ¬ nI (txB m k) = 32 from fun y => q1 (Or.inl ((e1 32 (by decide)).mp y))), if_neg (show ¬ nI (txB m k) = 10 from fun y => q1 (Or.inr ((e1 10 (by decide)).mp y))), jgo_some (d := d + 3) rfl hc]
      dsimp only [Option.toList_some, Option.toList_none, List.cons_append, List.nil_append]
      have e3 : ∀ (x y : Int32) o, jv (d + 4) 3 21 [some (.ref 27), some (.ref 3), some (.int (nI n)), some (.int x), some (.int y), o] [] (shC, j_up (j_up I 27 0 1) 27 1 (nI k), L, pX pa pb pu pw) = jv (d + 4) 3 80 [some (.ref 27), some (.ref 3), some (.int (nI n)), some (.int x), some (.int y), o] [] (shC, j_up (j_up I 27 0 1) 27 1 (nI k), L, pX pa pb pu pw) := by
        intro x y o
        rw [B3_21_m3, u0, if_neg (show ¬ (1 : Int32) = 0 by decide)]
        by_cases z : y < nI n
        · rw [if_pos z]
          by_cases z2 : x < nI n
          · rw [if_pos z2]
          · rw [if_neg z2]
        · rw [if_neg z]
      have g1 : j_up (j_up (j_up I 27 0 1) 27 1 (nI k)) 28 T 0 27 6 = nI T := by rw [j_up_cell _ (by decide), u6]
      rw [B3_72_m3, e3, B3_80_m3, u6, c1, g1, c1, if_pos (j_in_nI (by omega) (by decide)), if_pos (j_in_nI (by omega) (by decide))]
      refine jW2_some ⟨rfl, _, _, _, _, rfl, rfl, ⟨fun c a1 a2 a3 => ?_, fun q a1 a2 a3 => ?_, fun _ _ => rfl⟩, ⟨fun c a1 a2 a3 => ?_, fun q a1 a2 a3 => ?_, fun _ _ => rfl⟩, Or.inl ⟨rfl, k, ?_, ?_, ?_, ?_⟩⟩
      · rw [j_up_cell _ a3, j_up_cell _ a2, j_up_cell _ a1, j_up_cell _ a1]
      · rw [j_up_cell _ (by decide), j_up_cell _ (by decide), j_up_own, if_neg a2, j_up_own, if_neg a1]
      · rw [j_up_cell _ a1, j_up_cell _ a1]
      · rw [j_up_own, if_neg a3, j_up_own, if_neg a2]
      · rw [j_up_cell _ (by decide), j_up_cell _ (by decide), u0]
      · rw [j_up_cell _ (by decide), j_up_cell _ (by decide), j_up_own, if_pos rfl]
      · rw [j_up_own, if_neg (by decide), j_up_own, if_pos rfl]
      · rw [j_up_own, if_pos rfl]
    by_cases q2 : isL (txB m k)
    · obtain ⟨l, l1, l2, l3⟩ := run_ex (fun x => isL (txB m x)) (k := k) (n := n) (by omega)
      have l4 : 1 ≤ l := Nat.pos_of_ne_zero (fun z => by subst z; rcases l3 with z | z; · omega
                                                         · exact z q2)
      have hc := tokW_c3 (d := d) (L := L) (pa := pa) (pb := pb) (pu := pu) (pw := pw) hI (at' := k) h6 (by omega) hn l1 l4 l2 l3
      have hrf := rW6 (e := e) (L' := L') hJ hr hg (at' := k) h27 (by omega) hn l1 l4 l2 l3 p4 p5 p6 p7 p8
      by_cases q3 : 8 < l
      · rw [if_pos q3] at hc
        exact fl l hc (hrf.1 q3)
      · rw [if_neg q3] at hc
        exact nx 97 1 l _ _ l4 l1 rfl rfl rfl ⟨l1, l4, Or.inl ⟨rfl, by omega, l2⟩⟩ hc (hrf.2 (by omega))
    by_cases q3 : isD (txB m k)
    · obtain ⟨l, l1, l2, l3⟩ := run_ex (fun x => isD (txB m x)) (k := k) (n := n) (by omega)
      have l4 : 1 ≤ l := Nat.pos_of_ne_zero (fun z => by subst z; rcases l3 with z | z; · omega
                                                         · exact z q3)
      have hc := tokN_c3 (d := d) (L := L) (pa := pa) (pb := pb) (pu := pu) (pw := pw) hI (at' := k) h6 (by omega) hn l1 l4 l2 l3
      have hrf := rN6 (e := e) (L' := L') hJ hr hg (at' := k) h27 (by omega) hn l1 l4 l2 l3 p4 p5 p6 p7 p8
      by_cases q4 : 9 < l
      · rw [if_pos q4] at hc
        exact fl l hc (hrf.1 q4)
      · rw [if_neg q4] at hc
        exact nx 48 2 l _ _ l4 l1 rfl rfl rfl ⟨l1, l4, Or.inr (Or.inl ⟨rfl, by omega, l2⟩)⟩ hc (hrf.2 (by omega))
    have hc := tokS_c3 (d := d) (L := L) (pa := pa) (pb := pb) (pu := pu) (pw := pw) hI (at' := k) h6 (by omega) hn (by omega) q2 q3
    have hrf := rS6 (e := e) (L' := L') hJ hr hg (at' := k) h27 (by omega) hn (by omega) q2 q3 (fun z => q1 (Or.inl z)) (fun z => q1 (Or.inr z)) p4 p5 p6 p7 p8
    by_cases q4 : txB m k ∈ sgL
    · rw [if_pos q4] at hc
      obtain ⟨s1, s2, s3⟩ := sgK_ok (m := m) (show k < n by omega) q4
      exact nx (sgK m n k) _ (sgN m n k) _ _ s1.2.1 s1.1 (by unfold cV; rw [if_neg s2, if_neg s3]) (by unfold rV; rw [if_neg s2, if_neg s3]) rfl s1 hc (hrf.2 q4)
    · rw [if_neg q4] at hc
      exact fl _ hc (hrf.1 q4)
end
variable {T : Nat} {K P : Nat → Nat} {W : Nat → List Nat} {U : Nat → Nat} {Q : Nat} {nm : Nat → List Nat} {kd nb : Nat → Nat} {nl nt nu s : Nat} {cw : Nat → List Nat} {rho : Nat → Nat} {lam : Nat} {pa pb pw : Option Nat}
/-- the call that makes the tokens -/
theorem tok_call36 {d e n : Nat} {m : Nat → Int32} {I J : Nat → Nat → Int32} {L L' : Nat → Nat → Int64} {pu : Option Nat} (hn : n ≤ 1200) (h888 : m 888 = nI n) (hI : ∀ q, q < 1189 → I 4 q = m q) (hJ : ∀ q, q < 1189 → J 6 q = m q) (hr : rCst J) (h0 : I 27 0 = 0) (h29 : J 0 29 = 0) : jW2 (jv (d + 4) 3 0 [some (.ref 27), some (.ref 3), none, none, none, none] [] (shC, I, L, pX pa pb pu pw)) (jv (e + 1) 256 0 [some (.ref 0), some (.ref 6), none, none, none, none, none, none, none] [] (shR, J, L', pR)) (tkQ m n (pX pa pb pu pw) I J L L') := by
  have c52 : jv (d + 3) 52 0 [some (.ref 3)] [] (shC, I, L, pX pa pb pu pw) = some (some (.int (nI n)), (shC, I, L, pX pa pb pu pw)) := by
    rw [B52_0_o3, show (12 : Int32) = nI 12 from rfl, show (0 : Int32) = nI 0 from rfl, jgo_some (d := d + 2) rfl (of_3 (a := 12) (b := 0) (c := 0) (by decide) (by decide) (by decide) none)]
    dsimp only [Option.toList_some, Option.toList_none, List.cons_append, List.nil_append]
    rw [B52_8_o3, show fpN.getD 12 0 + 0 * fieldsN.getD 12 0 + 0 = 888 from rfl, hI 888 (by decide), h888]
  have m12 : J 4 12 = nI 888 := hr.2.2.2.1 12 (by decide)
  rw [B3_0_m3, jgo_some (d := d + 3) rfl c52]
  dsimp only [Option.toList_some, Option.toList_none, List.cons_append, List.nil_append]
  rw [B3_4_m3, if_neg (show ¬ (1200 : Int32) < nI n from nI_nlt (a := 1200) (by omega) (by omega)), B256_0_a6, if_pos (by decide), show ((12 : Int32)).toNatClampNeg = 12 from rfl, m12, if_pos (j_in_nI (by decide) (by decide)), nI_clamp (by decide), hJ 888 (by decide), h888]
  refine jW2_mono (tok_all36 (m := m) (d := d) (e := e) (pa := pa) (pb := pb) (pu := pu) (pw := pw) hn n 0 0 (fun _ => 0) (fun _ => 0) (fun _ => 0) 0 (j_up I 27 6 0) (j_up J 0 27 0) L L' none none none none none none (by omega) (Nat.le_refl _) (Nat.le_refl _) (fun q hq => by rw [j_up_cell _ (by decide)]; exact hI q hq) (fun q hq => by rw [j_up_cell _ (by decide)]; exact hJ q hq) (rCst_eq1 hr (fun c hc _ => j_up_cell _ hc _ _)) (by rw [j_up_own, if_neg (by decide)]; exact h0) (by rw [j_up_own, if_neg (by decide)]; exact h29) (by rw [j_up_own, if_pos rfl]; rfl) (by rw [j_up_own, if_pos rfl]; rfl) (fun j hj => absurd hj (Nat.not_lt_zero _)) (fun j hj => absurd hj (Nat.not_lt_zero _)) (fun j hj => absurd hj (Nat.not_lt_zero _))) ?_
  intro v S w S' z
  exact tkQ.mono (I := j_up I 27 6 0) (J := j_up J 0 27 0) (L := L) (L' := L') (m := m) ⟨fun c h1 h2 h3 => j_up_cell _ h1 _ _, fun q h1 h2 h3 => by rw [j_up_own, if_neg h3], fun _ _ => rfl⟩ ⟨fun c h1 h2 h3 => j_up_cell _ h1 _ _, fun q h1 h2 h3 => by rw [j_up_own, if_neg h1], fun _ _ => rfl⟩ z
theorem parse_e38_36 {d e : Nat} {I1 J1 : Nat → Nat → Int32} {L1 L1' : Nat → Nat → Int64} (h1 : I1 27 0 ≠ 0) (h2 : J1 0 29 ≠ 0) (c : Int32) : jv d 2 36 [some (.ref 27), some (.ref 3), some (.ref 38), some (.int c)] [] (shC, I1, L1, pX pa pb (some 38) pw) = some (some (.int 0), (shC, I1, L1, pX pa pb (some 38) pw)) ∧ jv e 261 56 [some (.ref 0), some (.ref 6)] [] (shR, J1, L1', pR) = some (some (.int 0), (shR, J1, L1', pR)) := by
  constructor
  · have e1 : jv d 2 124 [some (.ref 27), some (.ref 3), some (.ref 38), some (.int c)] [] (shC, I1, L1, pX pa pb (some 38) pw) = some (some (.int 0), (shC, I1, L1, pX pa pb (some 38) pw)) := by
      rw [B2_124_m3_g38, if_neg h1, B2_136_m3_g38, if_pos (by decide)]
    rw [B2_36_m3_g38]
    by_cases q : c < I1 27 6
    · rw [if_pos q, if_neg h1, e1]
    · rw [if_neg q, e1]
  · rw [B261_56_a6, if_neg h2, B261_78_a6, if_neg h2, B261_90_a6, if_pos (by decide)]
theorem parse_l38_36 {d e : Nat} (hd : 140 ≤ d) (he : 140 ≤ e) {Q0 : Nat} : ∀ (r : Nat) (Q : Nat) (nm : Nat → List Nat) (kd nb : Nat → Nat) (nl nt nu : Nat) (wl : Nat → Nat) (np now nc nr c : Nat) (I : Nat → Nat → Int32) (L : Nat → Nat → Int64) (J : Nat → Nat → Int32) (L' : Nat → Nat → Int64), T - now < r → pS 38 T K P W U Q nm kd nb nl nt nu wl np now nc nr I L J L' → c ≤ now → jW2 (jv (d + 2) 2 36 [some (.ref 27), some (.ref 3), some (.ref 38), some (.int (nI c))] [] (shC, I, L, pX pa pb (some 38) pw)) (jv (e + 2) 261 56 [some (.ref 0), some (.ref 6)] [] (shR, J, L', pR)) (plX 38 I L J L' (pX pa pb (some 38) pw)) := by
  have hg : 38 = 38 ∨ 38 = 49 := by decide
  intro r
  induction r with
  | zero => intro Q nm kd nb nl nt nu wl np now nc nr c I L J L' hr; exact absurd hr (Nat.not_lt_zero _)
  | succ r ih =>
    intro Q nm kd nb nl nt nu wl np now nc nr c I L J L' hr hS hc
    have ok := hS.1
    obtain ⟨tk, kw, hN, hC, a5, a6, a7, a8, a9, a10, a11, a12, a13⟩ := id ok
    have hT := tk.1
    have tq := tk.2.2.2.1 now a5
    have i0 := is_r (e := e + 1) tk a5 a11 (k := 0) (by decide)
    rw [show nI (kR 0) = (0 : Int32) from rfl] at i0
    have hkl := kR_lt _ tq.2.2.2.2
    rw [B261_56_a6, if_pos a9, jgo_some (d := e + 1) rfl i0]
    dsimp only [Option.toList_some, Option.toList_none, List.cons_append, List.nil_append]
    rw [B261_68_a6]
    by_cases q0 : K now = 0
    · have e1 : jv (d + 2) 2 124 [some (.ref 27), some (.ref 3), some (.ref 38), some (.int (nI c))] [] (shC, I, L, pX pa pb (some 38) pw) = some (some (.int 1), (shC, I, L, pX pa pb (some 38) pw)) := by
        rw [B2_124_m3_g38, if_pos a8, B2_136_m3_g38, if_pos (by decide)]
      have e2 : jv (d + 2) 2 36 [some (.ref 27), some (.ref 3), some (.ref 38), some (.int (nI c))] [] (shC, I, L, pX pa pb (some 38) pw) = some (some (.int 1), (shC, I, L, pX pa pb (some 38) pw)) := by
        rw [B2_36_m3_g38]
        by_cases q : nI c < I 27 6
        · rw [if_pos q, if_pos a8, a10, if_pos (j_in_nI (by omega) (by decide)), nI_clamp (by omega), tq.1, if_pos (by rw [q0]; rfl), e1]
        · rw [if_neg q, e1]
      rw [e2, if_pos q0, if_neg (by decide), B261_78_a6, if_pos a9, B261_90_a6, if_pos (by decide)]
      exact jW2_some ⟨I, L, J, L', 1, rfl, rfl, rfl, rfl, sFr.refl, Or.inl ⟨rfl, hS.g, a8, a9⟩⟩
    have lt : now < T := tk.lt a5 rfl q0
    -- behind a statement
    have aft : ∀ v S w S', sQ 38 T K P W U now I L J L' (pX pa pb (some 38) pw) v S w S' → (jW2 (jv (d + 2) 2 118 [some (.ref 27), some (.ref 3), some (.ref 38), some (.int (nI c))] [] S) (jv (e + 2) 261 56 [some (.ref 0), some (.ref 6)] [] S') (plX 38 I L J L' (pX pa pb (some 38) pw)) ∧ v = none ∧ w = none) := by
      rintro v S w S' ⟨I1, L1, J1, L1', rfl, rfl, rfl, rfl, fr, z⟩
      refine ⟨?_, rfl, rfl⟩
      rw [B2_118_m3_g38, show nI c + 1 = nI (c + 1) from nI_add c 1]
      rcases z with ⟨Q2, nm2, kd2, nb2, nl2, nt2, nu2, wl2, np2, now2, nc2, nr2, lt2, hS2⟩ | hb
      · have h2 := hS2.1.2.2.2.2.1
        refine jW2_mono (ih Q2 nm2 kd2 nb2 nl2 nt2 nu2 wl2 np2 now2 nc2 nr2 (c + 1) I1 L1 J1 L1' (by omega) hS2 (by omega)) ?_
        rintro v S w S' ⟨I2, L2, J2, L2', x, e1, e2, e3, e4, fr2, z2⟩
        exact ⟨I2, L2, J2, L2', x, e1, e2, e3, e4, fr.trans fr2, z2⟩
      · have pe := parse_e38_36 (d := d + 2) (e := e + 2) (L1 := L1) (L1' := L1') (pa := pa) (pb := pb) (pw := pw) hb.f.1 hb.f.2 (nI (c + 1))
        rw [pe.1, pe.2]
        exact jW2_some ⟨I1, L1, J1, L1', 0, rfl, rfl, rfl, rfl, fr, Or.inr ⟨rfl, hb⟩⟩
    rw [if_neg q0, if_pos rfl, B2_36_m3_g38, tk.2.1, if_pos (nI_lt (by omega) (by omega)), if_pos a8, a10, if_pos (j_in_nI (by omega) (by decide)), nI_clamp (by omega), tq.1, if_neg (show ¬ nI (K now) = (0 : Int32) from fun z => q0 ((nI_eq (b := 0) (by omega) (by decide)).mp z)), show (0 : Int32) = nI 0 from rfl, jgo_some (d := d + 1) rfl (nowkey_c (d := d) kw tk a5 a8 a10 (k := 0) (by decide))]
    dsimp only [Option.toList_some, Option.toList_none, List.cons_append, List.nil_append]
    rw [B2_68_m3_g38]
    have r0 := isw_2005 (e := e - 1) tk a5 a11
    have r1 := isw_2006 (e := e - 1) tk a5 a11
    have r2 := isw_2007 (e := e - 1) tk a5 a11
    rw [show e - 1 + 1 = e by omega] at r0 r1 r2
    by_cases k0 : K now = 97 ∧ W now = kwA.getD 0 []
    · have rs : jv (e + 1) 262 0 [some (.ref 0), none, none, none, none, none] [] (shR, J, L', pR) = jv (e + 1) 262 43 [some (.ref 0), none, none, none, none, none] [.int 1] (shR, J, L', pR) := by
        rw [B262_0, jgo_some (d := e) rfl r0, if_pos k0]
        dsimp only [Option.toList_some, Option.toList_none, List.cons_append, List.nil_append]
        rw [B262_7, if_neg (by decide)]
      rw [if_pos k0, if_neg (by decide)]
      refine jW2_go rfl rfl (show jW2 (jv (d + 1) 13 0 [some (.ref 27), none, none, none] [] (shC, I, L, pX pa pb (some 38) pw)) (jv (e + 1) 262 0 [some (.ref 0), none, none, none, none, none] [] (shR, J, L', pR)) _ by rw [rs]; exact let_sim38 (by omega) (by omega) hS k0.1) ?_
      intro v S w S' hq
      obtain ⟨z, rfl, rfl⟩ := aft v S w S' hq
      obtain ⟨I1, L1, J1, L1', _, _, rfl, rfl, _⟩ := id hq
      dsimp only [Option.toList_some, Option.toList_none, List.cons_append, List.nil_append]
      rw [B2_75_m3_g38, B261_75_a6]
      exact z
    rw [if_neg k0, if_pos rfl, show (1 : Int32) = nI 1 from rfl, jgo_some (d := d + 1) rfl (nowkey_c (d := d) kw tk a5 a8 a10 (k := 1) (by decide))]
    dsimp only [Option.toList_some, Option.toList_none, List.cons_append, List.nil_append]
    rw [B2_83_m3_g38]
    by_cases k1 : K now = 97 ∧ W now = kwA.getD 1 []
    · have rs : jv (e + 1) 262 0 [some (.ref 0), none, none, none, none, none] [] (shR, J, L', pR) = jv (e + 1) 262 43 [some (.ref 0), none, none, none, none, none] [.int 2] (shR, J, L', pR) := by
        rw [B262_0, jgo_some (d := e) rfl r0, if_neg k0]
        dsimp only [Option.toList_some, Option.toList_none, List.cons_append, List.nil_append]
        rw [B262_7, if_pos rfl, jgo_some (d := e) rfl r1, if_pos k1]
        dsimp only [Option.toList_some, Option.toList_none, List.cons_append, List.nil_append]
        rw [B262_21, if_neg (by decide)]
      rw [if_pos k1, if_neg (by decide)]
      refine jW2_go rfl rfl (show jW2 (jv (d + 1) 15 0 [some (.ref 27), none, none, none] [] (shC, I, L, pX pa pb (some 38) pw)) (jv (e + 1) 262 0 [some (.ref 0), none, none, none, none, none] [] (shR, J, L', pR)) _ by rw [rs]; exact table_sim38 (by omega) (by omega) hS k1.1) ?_
      intro v S w S' hq
      obtain ⟨z, rfl, rfl⟩ := aft v S w S' hq
      obtain ⟨I1, L1, J1, L1', _, _, rfl, rfl, _⟩ := id hq
      dsimp only [Option.toList_some, Option.toList_none, List.cons_append, List.nil_append]
      rw [B2_90_m3_g38, B261_75_a6]
      exact z
    rw [if_neg k1, if_pos rfl, show (2 : Int32) = nI 2 from rfl, jgo_some (d := d + 1) rfl (nowkey_c (d := d) kw tk a5 a8 a10 (k := 2) (by decide))]
    dsimp only [Option.toList_some, Option.toList_none, List.cons_append, List.nil_append]
    rw [B2_98_m3_g38]
    by_cases k2 : K now = 97 ∧ W now = kwA.getD 2 []
    · have rs : jv (e + 1) 262 0 [some (.ref 0), none, none, none, none, none] [] (shR, J, L', pR) = jv (e + 1) 262 43 [some (.ref 0), none, none, none, none, none] [.int 3] (shR, J, L', pR) := by
        rw [B262_0, jgo_some (d := e) rfl r0, if_neg k0]
        dsimp only [Option.toList_some, Option.toList_none, List.cons_append, List.nil_append]
        rw [B262_7, if_pos rfl, jgo_some (d := e) rfl r1, if_neg k1]
        dsimp only [Option.toList_some, Option.toList_none, List.cons_append, List.nil_append]
        rw [B262_21, if_pos rfl, jgo_some (d := e) rfl r2, if_pos k2]
        dsimp only [Option.toList_some, Option.toList_none, List.cons_append, List.nil_append]
        rw [B262_35, if_neg (by decide)]
      rw [if_pos k2, if_neg (by decide)]
      refine jW2_go rfl rfl (show jW2 (jv (d + 1) 14 0 [some (.ref 27), none, none, none] [] (shC, I, L, pX pa pb (some 38) pw)) (jv (e + 1) 262 0 [some (.ref 0), none, none, none, none, none] [] (shR, J, L', pR)) _ by rw [rs]; exact rule_sim38 (by omega) (by omega) hS k2.1) ?_
      intro v S w S' hq
      obtain ⟨z, rfl, rfl⟩ := aft v S w S' hq
      obtain ⟨I1, L1, J1, L1', _, _, rfl, rfl, _⟩ := id hq
      dsimp only [Option.toList_some, Option.toList_none, List.cons_append, List.nil_append]
      rw [B2_105_m3_g38, B261_75_a6]
      exact z
    -- no statement begins so
    have rs : jv (e + 1) 262 0 [some (.ref 0), none, none, none, none, none] [] (shR, J, L', pR) = some (none, (shR, flR J 2 (P now), L', pR)) := by
      rw [B262_0, jgo_some (d := e) rfl r0, if_neg k0]
      dsimp only [Option.toList_some, Option.toList_none, List.cons_append, List.nil_append]
      rw [B262_7, if_pos rfl, jgo_some (d := e) rfl r1, if_neg k1]
      dsimp only [Option.toList_some, Option.toList_none, List.cons_append, List.nil_append]
      rw [B262_21, if_pos rfl, jgo_some (d := e) rfl r2, if_neg k2]
      dsimp only [Option.toList_some, Option.toList_none, List.cons_append, List.nil_append]
      rw [B262_35, if_pos rfl, B262_43, a11, if_pos (j_in_nI (by omega) (by decide)), nI_clamp (by omega), tq.2.2.2.1, if_pos rfl, show (2 : Int32) = nI 2 from rfl, jgo_some (d := e) rfl (fails_rk a9 2 (P now))]
      dsimp only [Option.toList_some, Option.toList_none, List.cons_append, List.nil_append]
      rw [B262_64]
    have hf := eSt.fl hg ok.st (f := 2) (p := P now) (by decide) (by omega)
    rw [if_neg k2, if_pos rfl, a10, jgo_some (d := d + 1) rfl (fail_c tk a5 a8 2), jgo_some (d := e + 1) rfl rs]
    dsimp only [Option.toList_some, Option.toList_none, List.cons_append, List.nil_append]
    rw [B2_117_m3_g38, B261_75_a6]
    exact (aft none _ none _ (sQ.bad (sFr.of hg hf.1 hf.2.1) hf.b)).1
/-- a text read by both -/
theorem parse_sim38_36 {d e n : Nat} (hd : 150 ≤ d) (he : 150 ≤ e) {m : Nat → Int32} {I J : Nat → Nat → Int32} {L L' : Nat → Nat → Int64} {pu : Option Nat} (hn : n ≤ 1200) (h888 : m 888 = nI n) (hI : ∀ q, q < 1189 → I 4 q = m q) (hJ : ∀ q, q < 1189 → J 6 q = m q) (hr : rCst J) (kw : kwS L) : jW2 (jv d 2 0 [some (.ref 27), some (.ref 3), some (.ref 38), none] [] (shC, I, L, pX pa pb pu pw)) (jv e 261 0 [some (.ref 0), some (.ref 6)] [] (shR, J, L', pR)) (psQ 38 I L J L' (pX pa pb (some 38) pw)) := by
  have hg : 38 = 38 ∨ 38 = 49 := by decide
  obtain ⟨d, rfl⟩ : ∃ d', d = d' + 5 := ⟨d - 5, by omega⟩
  obtain ⟨e, rfl⟩ : ∃ e', e = e' + 5 := ⟨e - 5, by omega⟩
  rw [B2_0_m3_g38, pX_u, jgo_some (d := d + 4) rfl (B93_0_o38 _ _ _ _ _ _ _), B261_0_a6]
  dsimp only [Option.toList_some, Option.toList_none, List.cons_append, List.nil_append]
  rw [B2_9_m3_g38]
  have eI : ∀ c, c ≠ 27 → c ≠ 38 → j_up (j_up (j_up (j_up (j_up (j_up (j_up (j_up I 38 10 0) 38 11 0) 38 12 0) 38 13 0) 27 0 0) 27 7 0) 27 14 0) 27 16 0 c = I c := fun c h1 h2 => by rw [j_up_cell _ h1, j_up_cell _ h1, j_up_cell _ h1, j_up_cell _ h1, j_up_cell _ h2, j_up_cell _ h2, j_up_cell _ h2, j_up_cell _ h2]
  have e27 : ∀ q, q = 0 ∨ q = 7 ∨ q = 14 ∨ q = 16 → j_up (j_up (j_up (j_up (j_up (j_up (j_up (j_up I 38 10 0) 38 11 0) 38 12 0) 38 13 0) 27 0 0) 27 7 0) 27 14 0) 27 16 0 27 q = 0 := fun q h => by
    rw [j_up_own, j_up_own, j_up_own, j_up_own]
    rcases h with h | h | h | h <;> subst h <;> rfl
  have eg : ∀ q, q = 10 ∨ q = 11 ∨ q = 12 ∨ q = 13 → j_up (j_up (j_up (j_up (j_up (j_up (j_up (j_up I 38 10 0) 38 11 0) 38 12 0) 38 13 0) 27 0 0) 27 7 0) 27 14 0) 27 16 0 38 q = 0 := fun q h => by
    rw [j_up_cell _ (by decide), j_up_cell _ (by decide), j_up_cell _ (by decide), j_up_cell _ (by decide), j_up_own, j_up_own, j_up_own, j_up_own]
    rcases h with h | h | h | h <;> subst h <;> rfl
  have eJ : ∀ c, c ≠ 0 → j_up (j_up (j_up (j_up (j_up (j_up (j_up (j_up (j_up J 0 29 0) 0 30 (-2)) 0 36 0) 0 39 0) 0 46 0) 0 45 0) 0 49 0) 0 52 0) 0 28 0 c = J c := fun c h => by rw [j_up_cell _ h, j_up_cell _ h, j_up_cell _ h, j_up_cell _ h, j_up_cell _ h, j_up_cell _ h, j_up_cell _ h, j_up_cell _ h, j_up_cell _ h]
  have e0 : ∀ q, q = 28 ∨ q = 29 ∨ q = 36 ∨ q = 39 ∨ q = 45 ∨ q = 46 ∨ q = 49 ∨ q = 52 → j_up (j_up (j_up (j_up (j_up (j_up (j_up (j_up (j_up J 0 29 0) 0 30 (-2)) 0 36 0) 0 39 0) 0 46 0) 0 45 0) 0 49 0) 0 52 0) 0 28 0 0 q = 0 := fun q h => by
    rw [j_up_own, j_up_own, j_up_own, j_up_own, j_up_own, j_up_own, j_up_own, j_up_own, j_up_own]
    rcases h with h | h | h | h | h | h | h | h <;> subst h <;> rfl
  have en : ∀ q, q < 27 ∨ 52 < q → j_up (j_up (j_up (j_up (j_up (j_up (j_up (j_up (j_up J 0 29 0) 0 30 (-2)) 0 36 0) 0 39 0) 0 46 0) 0 45 0) 0 49 0) 0 52 0) 0 28 0 0 q = J 0 q := fun q h => by
    rw [j_up_own, if_neg (by omega), j_up_own, if_neg (by omega), j_up_own, if_neg (by omega), j_up_own, if_neg (by omega), j_up_own, if_neg (by omega), j_up_own, if_neg (by omega), j_up_own, if_neg (by omega), j_up_own, if_neg (by omega), j_up_own, if_neg (by omega)]
  revert eI e27 eg eJ e0 en
  generalize j_up (j_up (j_up (j_up (j_up (j_up (j_up (j_up I 38 10 0) 38 11 0) 38 12 0) 38 13 0) 27 0 0) 27 7 0) 27 14 0) 27 16 0 = Ia
  generalize j_up (j_up (j_up (j_up (j_up (j_up (j_up (j_up (j_up J 0 29 0) 0 30 (-2)) 0 36 0) 0 39 0) 0 46 0) 0 45 0) 0 49 0) 0 52 0) 0 28 0 = Ja
  intro eI e27 eg eJ e0 en
  refine jW2_go rfl rfl (tok_call36 (d := d) (e := e + 3) (m := m) hn h888 (fun q hq => by rw [eI 4 (by decide) (by decide)]; exact hI q hq) (fun q hq => by rw [eJ 6 (by decide)]; exact hJ q hq) (rCst_eq1 hr (fun c hc _ => eJ c hc)) (e27 0 (by decide)) (e0 29 (by decide))) ?_
  rintro v S w S' ⟨rfl, I1, L1, J1, L1', rfl, rfl, f1, f2, hh⟩
  have fr : pF 38 I I1 L L1 J J1 L' L1' := ⟨fun c h1 h2 => by rw [f1.1 c (by omega) (by omega) (by omega)]; exact eI c (by omega) (by omega), fun c h => f1.2.2 c (by omega), fun c h1 h2 => by rw [f2.1 c h1 (by omega) (by omega)]; exact eJ c h1, fun q h => by rw [f2.2.1 q (by omega) (by omega) (by omega)]; exact en q h, fun c h => f2.2.2 c (by omega)⟩
  rcases hh with ⟨rfl, p, g1, g2, g3, g4⟩ | ⟨rfl, g1, g2, T, K, P, N, hT, g3, g4, g5, g6, g7, g8, g9, g10, g11⟩
  · dsimp only [Option.toList_some, Option.toList_none, List.cons_append, List.nil_append]
    rw [B2_34_m3_g38, B261_51_a6, if_pos rfl, if_pos (by decide)]
    have hb : sB I1 J1 := ⟨1, p, by decide, by decide, g1, g2, g3, g4⟩
    have pe := parse_e38_36 (d := d + 5) (e := e + 5) (L1 := L1) (L1' := L1') (pa := pa) (pb := pb) (pw := pw) hb.f.1 hb.f.2 0
    rw [pe.1]
    exact jW2_some ⟨I1, L1, J1, L1', 0, rfl, rfl, rfl, rfl, fr, Or.inr ⟨rfl, hb⟩⟩
  · dsimp only [Option.toList_some, Option.toList_none, List.cons_append, List.nil_append]
    rw [B2_34_m3_g38, B261_51_a6, if_neg (by decide)]
    have tk := tkS_of hn hT g3 g5 g6 g7 g8 g9 g10 g11
    have kw1 : kwS L1 := by
      unfold kwS at kw ⊢
      rw [f1.2.2 35 (by decide), f1.2.2 36 (by decide), f1.2.2 37 (by decide)]
      exact kw
    have c0 : ∀ q, q = 7 ∨ q = 14 ∨ q = 16 → I1 27 q = nI 0 := fun q h => (f1.2.1 q (by omega) (by omega) (by omega)).trans (e27 q (by omega))
    have cg : ∀ q, q = 10 ∨ q = 11 ∨ q = 12 ∨ q = 13 → I1 38 q = nI 0 := fun q h => by rw [f1.1 38 (by decide) (by decide) (by decide)]; exact eg q h
    have d0 : ∀ q, q = 28 ∨ q = 36 ∨ q = 39 ∨ q = 45 ∨ q = 46 ∨ q = 49 ∨ q = 52 → J1 0 q = nI 0 := fun q h => (f2.2.1 q (by omega) (by omega) (by omega)).trans (e0 q (by omega))
    have hS : pS 38 T (upN K T 0) (upN P T n) (fun j => bts m (P j) (N j)) (fun j => nW 10 48 (bts m (P j) (N j))) 0 cw0 (fun _ => 0) (fun _ => 0) 0 0 0 (fun _ => 0) 0 0 0 0 I1 L1 J1 L1' :=
      ⟨⟨tk, kw1, ⟨by omega, c0 14 (by decide), by omega, by omega, by omega, d0 39 (by decide), d0 46 (by decide), d0 49 (by decide), fun q hq => absurd hq (Nat.not_lt_zero _), fun q hq => absurd hq (Nat.not_lt_zero _), fun q hq => absurd hq (Nat.not_lt_zero _), fun q hq => absurd hq (Nat.not_lt_zero _), fun q r hq => absurd hq (Nat.not_lt_zero _)⟩, ⟨by omega, c0 16 (by decide), d0 52 (by decide), fun q hq => absurd hq (Nat.not_lt_zero _), fun q r hq => absurd hq (Nat.not_lt_zero _)⟩, by omega, by omega, by omega, g1, g2, c0 7 (by decide), d0 28 (by decide), cg 10 (by decide), d0 36 (by decide)⟩, cg 11 (by decide), cg 12 (by decide), cg 13 (by decide), rfl, d0 45 (by decide), by omega, fun i hi => absurd hi (Nat.not_lt_zero _), fun i hi => absurd hi (Nat.not_lt_zero _), fun i hi => absurd hi (Nat.not_lt_zero _), fun _ _ _ => Nat.le_refl _, Nat.le_refl _⟩
    refine jW2_mono (parse_l38_36 (d := d + 3) (e := e + 3) (Q0 := 0) (by omega) (by omega) (T + 1) _ _ _ _ _ _ _ _ _ 0 0 0 0 I1 L1 J1 L1' (by omega) hS (Nat.le_refl _)) ?_
    rintro v S w S' ⟨I2, L2, J2, L2', x, e1, e2, e3, e4, fr2, z2⟩
    exact ⟨I2, L2, J2, L2', x, e1, e2, e3, e4, ⟨fun c h1 h2 => (fr2.1 c h1 h2).trans (fr.1 c h1 h2), fun c h => (fr2.2.2.2.2.2.1 c (by omega) (by omega)).trans (fr.2.1 c h), fun c h1 h2 => (fr2.2.2.2.2.2.2.1 c h1 (by omega)).trans (fr.2.2.1 c h1 h2), fun q h => (fr2.2.2.2.2.2.2.2.1 q (by omega)).trans (fr.2.2.2.1 q h), fun c h => (fr2.2.2.2.2.2.2.2.2 c (by omega)).trans (fr.2.2.2.2 c h)⟩, z2⟩
theorem parse_e49_36 {d e : Nat} {I1 J1 : Nat → Nat → Int32} {L1 L1' : Nat → Nat → Int64} (h1 : I1 27 0 ≠ 0) (h2 : J1 0 29 ≠ 0) (c : Int32) : jv d 2 36 [some (.ref 27), some (.ref 3), some (.ref 49), some (.int c)] [] (shC, I1, L1, pX pa pb (some 49) pw) = some (some (.int 0), (shC, I1, L1, pX pa pb (some 49) pw)) ∧ jv e 261 56 [some (.ref 0), some (.ref 6)] [] (shR, J1, L1', pR) = some (some (.int 0), (shR, J1, L1', pR)) := by
  constructor
  · have e1 : jv d 2 124 [some (.ref 27), some (.ref 3), some (.ref 49), some (.int c)] [] (shC, I1, L1, pX pa pb (some 49) pw) = some (some (.int 0), (shC, I1, L1, pX pa pb (some 49) pw)) := by
      rw [B2_124_m3_g49, if_neg h1, B2_136_m3_g49, if_pos (by decide)]
    rw [B2_36_m3_g49]
    by_cases q : c < I1 27 6
    · rw [if_pos q, if_neg h1, e1]
    · rw [if_neg q, e1]
  · rw [B261_56_a6, if_neg h2, B261_78_a6, if_neg h2, B261_90_a6, if_pos (by decide)]
theorem parse_l49_36 {d e : Nat} (hd : 140 ≤ d) (he : 140 ≤ e) {Q0 : Nat} : ∀ (r : Nat) (Q : Nat) (nm : Nat → List Nat) (kd nb : Nat → Nat) (nl nt nu : Nat) (wl : Nat → Nat) (np now nc nr c : Nat) (I : Nat → Nat → Int32) (L : Nat → Nat → Int64) (J : Nat → Nat → Int32) (L' : Nat → Nat → Int64), T - now < r → pS 49 T K P W U Q nm kd nb nl nt nu wl np now nc nr I L J L' → c ≤ now → jW2 (jv (d + 2) 2 36 [some (.ref 27), some (.ref 3), some (.ref 49), some (.int (nI c))] [] (shC, I, L, pX pa pb (some 49) pw)) (jv (e + 2) 261 56 [some (.ref 0), some (.ref 6)] [] (shR, J, L', pR)) (plX 49 I L J L' (pX pa pb (some 49) pw)) := by
  have hg : 49 = 38 ∨ 49 = 49 := by decide
  intro r
  induction r with
  | zero => intro Q nm kd nb nl nt nu wl np now nc nr c I L J L' hr; exact absurd hr (Nat.not_lt_zero _)
  | succ r ih =>
    intro Q nm kd nb nl nt nu wl np now nc nr c I L J L' hr hS hc
    have ok := hS.1
    obtain ⟨tk, kw, hN, hC, a5, a6, a7, a8, a9, a10, a11, a12, a13⟩ := id ok
    have hT := tk.1
    have tq := tk.2.2.2.1 now a5
    have i0 := is_r (e := e + 1) tk a5 a11 (k := 0) (by decide)
    rw [show nI (kR 0) = (0 : Int32) from rfl] at i0
    have hkl := kR_lt _ tq.2.2.2.2
    rw [B261_56_a6, if_pos a9, jgo_some (d := e + 1) rfl i0]
    dsimp only [Option.toList_some, Option.toList_none, List.cons_append, List.nil_append]
    rw [B261_68_a6]
    by_cases q0 : K now = 0
    · have e1 : jv (d + 2) 2 124 [some (.ref 27), some (.ref 3), some (.ref 49), some (.int (nI c))] [] (shC, I, L, pX pa pb (some 49) pw) = some (some (.int 1), (shC, I, L, pX pa pb (some 49) pw)) := by
        rw [B2_124_m3_g49, if_pos a8, B2_136_m3_g49, if_pos (by decide)]
      have e2 : jv (d + 2) 2 36 [some (.ref 27), some (.ref 3), some (.ref 49), some (.int (nI c))] [] (shC, I, L, pX pa pb (some 49) pw) = some (some (.int 1), (shC, I, L, pX pa pb (some 49) pw)) := by
        rw [B2_36_m3_g49]
        by_cases q : nI c < I 27 6
        · rw [if_pos q, if_pos a8, a10, if_pos (j_in_nI (by omega) (by decide)), nI_clamp (by omega), tq.1, if_pos (by rw [q0]; rfl), e1]
        · rw [if_neg q, e1]
      rw [e2, if_pos q0, if_neg (by decide), B261_78_a6, if_pos a9, B261_90_a6, if_pos (by decide)]
      exact jW2_some ⟨I, L, J, L', 1, rfl, rfl, rfl, rfl, sFr.refl, Or.inl ⟨rfl, hS.g, a8, a9⟩⟩
    have lt : now < T := tk.lt a5 rfl q0
    -- behind a statement
    have aft : ∀ v S w S', sQ 49 T K P W U now I L J L' (pX pa pb (some 49) pw) v S w S' → (jW2 (jv (d + 2) 2 118 [some (.ref 27), some (.ref 3), some (.ref 49), some (.int (nI c))] [] S) (jv (e + 2) 261 56 [some (.ref 0), some (.ref 6)] [] S') (plX 49 I L J L' (pX pa pb (some 49) pw)) ∧ v = none ∧ w = none) := by
      rintro v S w S' ⟨I1, L1, J1, L1', rfl, rfl, rfl, rfl, fr, z⟩
      refine ⟨?_, rfl, rfl⟩
      rw [B2_118_m3_g49, show nI c + 1 = nI (c + 1) from nI_add c 1]
      rcases z with ⟨Q2, nm2, kd2, nb2, nl2, nt2, nu2, wl2, np2, now2, nc2, nr2, lt2, hS2⟩ | hb
      · have h2 := hS2.1.2.2.2.2.1
        refine jW2_mono (ih Q2 nm2 kd2 nb2 nl2 nt2 nu2 wl2 np2 now2 nc2 nr2 (c + 1) I1 L1 J1 L1' (by omega) hS2 (by omega)) ?_
        rintro v S w S' ⟨I2, L2, J2, L2', x, e1, e2, e3, e4, fr2, z2⟩
        exact ⟨I2, L2, J2, L2', x, e1, e2, e3, e4, fr.trans fr2, z2⟩
      · have pe := parse_e49_36 (d := d + 2) (e := e + 2) (L1 := L1) (L1' := L1') (pa := pa) (pb := pb) (pw := pw) hb.f.1 hb.f.2 (nI (c + 1))
        rw [pe.1, pe.2]
        exact jW2_some ⟨I1, L1, J1, L1', 0, rfl, rfl, rfl, rfl, fr, Or.inr ⟨rfl, hb⟩⟩
    rw [if_neg q0, if_pos rfl, B2_36_m3_g49, tk.2.1, if_pos (nI_lt (by omega) (by omega)), if_pos a8, a10, if_pos (j_in_nI (by omega) (by decide)), nI_clamp (by omega), tq.1, if_neg (show ¬ nI (K now) = (0 : Int32) from fun z => q0 ((nI_eq (b := 0) (by omega) (by decide)).mp z)), show (0 : Int32) = nI 0 from rfl, jgo_some (d := d + 1) rfl (nowkey_c (d := d) kw tk a5 a8 a10 (k := 0) (by decide))]
    dsimp only [Option.toList_some, Option.toList_none, List.cons_append, List.nil_append]
    rw [B2_68_m3_g49]
    have r0 := isw_2005 (e := e - 1) tk a5 a11
    have r1 := isw_2006 (e := e - 1) tk a5 a11
    have r2 := isw_2007 (e := e - 1) tk a5 a11
    rw [show e - 1 + 1 = e by omega] at r0 r1 r2
    by_cases k0 : K now = 97 ∧ W now = kwA.getD 0 []
    · have rs : jv (e + 1) 262 0 [some (.ref 0), none, none, none, none, none] [] (shR, J, L', pR) = jv (e + 1) 262 43 [some (.ref 0), none, none, none, none, none] [.int 1] (shR, J, L', pR) := by
        rw [B262_0, jgo_some (d := e) rfl r0, if_pos k0]
        dsimp only [Option.toList_some, Option.toList_none, List.cons_append, List.nil_append]
        rw [B262_7, if_neg (by decide)]
      rw [if_pos k0, if_neg (by decide)]
      refine jW2_go rfl rfl (show jW2 (jv (d + 1) 13 0 [some (.ref 27), none, none, none] [] (shC, I, L, pX pa pb (some 49) pw)) (jv (e + 1) 262 0 [some (.ref 0), none, none, none, none, none] [] (shR, J, L', pR)) _ by rw [rs]; exact let_sim49 (by omega) (by omega) hS k0.1) ?_
      intro v S w S' hq
      obtain ⟨z, rfl, rfl⟩ := aft v S w S' hq
      obtain ⟨I1, L1, J1, L1', _, _, rfl, rfl, _⟩ := id hq
      dsimp only [Option.toList_some, Option.toList_none, List.cons_append, List.nil_append]
      rw [B2_75_m3_g49, B261_75_a6]
      exact z
    rw [if_neg k0, if_pos rfl, show (1 : Int32) = nI 1 from rfl, jgo_some (d := d + 1) rfl (nowkey_c (d := d) kw tk a5 a8 a10 (k := 1) (by decide))]
    dsimp only [Option.toList_some, Option.toList_none, List.cons_append, List.nil_append]
    rw [B2_83_m3_g49]
    by_cases k1 : K now = 97 ∧ W now = kwA.getD 1 []
    · have rs : jv (e + 1) 262 0 [some (.ref 0), none, none, none, none, none] [] (shR, J, L', pR) = jv (e + 1) 262 43 [some (.ref 0), none, none, none, none, none] [.int 2] (shR, J, L', pR) := by
        rw [B262_0, jgo_some (d := e) rfl r0, if_neg k0]
        dsimp only [Option.toList_some, Option.toList_none, List.cons_append, List.nil_append]
        rw [B262_7, if_pos rfl, jgo_some (d := e) rfl r1, if_pos k1]
        dsimp only [Option.toList_some, Option.toList_none, List.cons_append, List.nil_append]
        rw [B262_21, if_neg (by decide)]
      rw [if_pos k1, if_neg (by decide)]
      refine jW2_go rfl rfl (show jW2 (jv (d + 1) 15 0 [some (.ref 27), none, none, none] [] (shC, I, L, pX pa pb (some 49) pw)) (jv (e + 1) 262 0 [some (.ref 0), none, none, none, none, none] [] (shR, J, L', pR)) _ by rw [rs]; exact table_sim49 (by omega) (by omega) hS k1.1) ?_
      intro v S w S' hq
      obtain ⟨z, rfl, rfl⟩ := aft v S w S' hq
      obtain ⟨I1, L1, J1, L1', _, _, rfl, rfl, _⟩ := id hq
      dsimp only [Option.toList_some, Option.toList_none, List.cons_append, List.nil_append]
      rw [B2_90_m3_g49, B261_75_a6]
      exact z
    rw [if_neg k1, if_pos rfl, show (2 : Int32) = nI 2 from rfl, jgo_some (d := d + 1) rfl (nowkey_c (d := d) kw tk a5 a8 a10 (k := 2) (by decide))]
    dsimp only [Option.toList_some, Option.toList_none, List.cons_append, List.nil_append]
    rw [B2_98_m3_g49]
    by_cases k2 : K now = 97 ∧ W now = kwA.getD 2 []
    · have rs : jv (e + 1) 262 0 [some (.ref 0), none, none, none, none, none] [] (shR, J, L', pR) = jv (e + 1) 262 43 [some (.ref 0), none, none, none, none, none] [.int 3] (shR, J, L', pR) := by
        rw [B262_0, jgo_some (d := e) rfl r0, if_neg k0]
        dsimp only [Option.toList_some, Option.toList_none, List.cons_append, List.nil_append]
        rw [B262_7, if_pos rfl, jgo_some (d := e) rfl r1, if_neg k1]
        dsimp only [Option.toList_some, Option.toList_none, List.cons_append, List.nil_append]
        rw [B262_21, if_pos rfl, jgo_some (d := e) rfl r2, if_pos k2]
        dsimp only [Option.toList_some, Option.toList_none, List.cons_append, List.nil_append]
        rw [B262_35, if_neg (by decide)]
      rw [if_pos k2, if_neg (by decide)]
      refine jW2_go rfl rfl (show jW2 (jv (d + 1) 14 0 [some (.ref 27), none, none, none] [] (shC, I, L, pX pa pb (some 49) pw)) (jv (e + 1) 262 0 [some (.ref 0), none, none, none, none, none] [] (shR, J, L', pR)) _ by rw [rs]; exact rule_sim49 (by omega) (by omega) hS k2.1) ?_
      intro v S w S' hq
      obtain ⟨z, rfl, rfl⟩ := aft v S w S' hq
      obtain ⟨I1, L1, J1, L1', _, _, rfl, rfl, _⟩ := id hq
      dsimp only [Option.toList_some, Option.toList_none, List.cons_append, List.nil_append]
      rw [B2_105_m3_g49, B261_75_a6]
      exact z
    -- no statement begins so
    have rs : jv (e + 1) 262 0 [some (.ref 0), none, none, none, none, none] [] (shR, J, L', pR) = some (none, (shR, flR J 2 (P now), L', pR)) := by
      rw [B262_0, jgo_some (d := e) rfl r0, if_neg k0]
      dsimp only [Option.toList_some, Option.toList_none, List.cons_append, List.nil_append]
      rw [B262_7, if_pos rfl, jgo_some (d := e) rfl r1, if_neg k1]
      dsimp only [Option.toList_some, Option.toList_none, List.cons_append, List.nil_append]
      rw [B262_21, if_pos rfl, jgo_some (d := e) rfl r2, if_neg k2]
      dsimp only [Option.toList_some, Option.toList_none, List.cons_append, List.nil_append]
      rw [B262_35, if_pos rfl, B262_43, a11, if_pos (j_in_nI (by omega) (by decide)), nI_clamp (by omega), tq.2.2.2.1, if_pos rfl, show (2 : Int32) = nI 2 from rfl, jgo_some (d := e) rfl (fails_rk a9 2 (P now))]
      dsimp only [Option.toList_some, Option.toList_none, List.cons_append, List.nil_append]
      rw [B262_64]
    have hf := eSt.fl hg ok.st (f := 2) (p := P now) (by decide) (by omega)
    rw [if_neg k2, if_pos rfl, a10, jgo_some (d := d + 1) rfl (fail_c tk a5 a8 2), jgo_some (d := e + 1) rfl rs]
    dsimp only [Option.toList_some, Option.toList_none, List.cons_append, List.nil_append]
    rw [B2_117_m3_g49, B261_75_a6]
    exact (aft none _ none _ (sQ.bad (sFr.of hg hf.1 hf.2.1) hf.b)).1
/-- a text read by both -/
theorem parse_sim49_36 {d e n : Nat} (hd : 150 ≤ d) (he : 150 ≤ e) {m : Nat → Int32} {I J : Nat → Nat → Int32} {L L' : Nat → Nat → Int64} {pu : Option Nat} (hn : n ≤ 1200) (h888 : m 888 = nI n) (hI : ∀ q, q < 1189 → I 4 q = m q) (hJ : ∀ q, q < 1189 → J 6 q = m q) (hr : rCst J) (kw : kwS L) : jW2 (jv d 2 0 [some (.ref 27), some (.ref 3), some (.ref 49), none] [] (shC, I, L, pX pa pb pu pw)) (jv e 261 0 [some (.ref 0), some (.ref 6)] [] (shR, J, L', pR)) (psQ 49 I L J L' (pX pa pb (some 49) pw)) := by
  have hg : 49 = 38 ∨ 49 = 49 := by decide
  obtain ⟨d, rfl⟩ : ∃ d', d = d' + 5 := ⟨d - 5, by omega⟩
  obtain ⟨e, rfl⟩ : ∃ e', e = e' + 5 := ⟨e - 5, by omega⟩
  rw [B2_0_m3_g49, pX_u, jgo_some (d := d + 4) rfl (B93_0_o49 _ _ _ _ _ _ _), B261_0_a6]
  dsimp only [Option.toList_some, Option.toList_none, List.cons_append, List.nil_append]
  rw [B2_9_m3_g49]
  have eI : ∀ c, c ≠ 27 → c ≠ 49 → j_up (j_up (j_up (j_up (j_up (j_up (j_up (j_up I 49 10 0) 49 11 0) 49 12 0) 49 13 0) 27 0 0) 27 7 0) 27 14 0) 27 16 0 c = I c := fun c h1 h2 => by rw [j_up_cell _ h1, j_up_cell _ h1, j_up_cell _ h1, j_up_cell _ h1, j_up_cell _ h2, j_up_cell _ h2, j_up_cell _ h2, j_up_cell _ h2]
  have e27 : ∀ q, q = 0 ∨ q = 7 ∨ q = 14 ∨ q = 16 → j_up (j_up (j_up (j_up (j_up (j_up (j_up (j_up I 49 10 0) 49 11 0) 49 12 0) 49 13 0) 27 0 0) 27 7 0) 27 14 0) 27 16 0 27 q = 0 := fun q h => by
    rw [j_up_own, j_up_own, j_up_own, j_up_own]
    rcases h with h | h | h | h <;> subst h <;> rfl
  have eg : ∀ q, q = 10 ∨ q = 11 ∨ q = 12 ∨ q = 13 → j_up (j_up (j_up (j_up (j_up (j_up (j_up (j_up I 49 10 0) 49 11 0) 49 12 0) 49 13 0) 27 0 0) 27 7 0) 27 14 0) 27 16 0 49 q = 0 := fun q h => by
    rw [j_up_cell _ (by decide), j_up_cell _ (by decide), j_up_cell _ (by decide), j_up_cell _ (by decide), j_up_own, j_up_own, j_up_own, j_up_own]
    rcases h with h | h | h | h <;> subst h <;> rfl
  have eJ : ∀ c, c ≠ 0 → j_up (j_up (j_up (j_up (j_up (j_up (j_up (j_up (j_up J 0 29 0) 0 30 (-2)) 0 36 0) 0 39 0) 0 46 0) 0 45 0) 0 49 0) 0 52 0) 0 28 0 c = J c := fun c h => by rw [j_up_cell _ h, j_up_cell _ h, j_up_cell _ h, j_up_cell _ h, j_up_cell _ h, j_up_cell _ h, j_up_cell _ h, j_up_cell _ h, j_up_cell _ h]
  have e0 : ∀ q, q = 28 ∨ q = 29 ∨ q = 36 ∨ q = 39 ∨ q = 45 ∨ q = 46 ∨ q = 49 ∨ q = 52 → j_up (j_up (j_up (j_up (j_up (j_up (j_up (j_up (j_up J 0 29 0) 0 30 (-2)) 0 36 0) 0 39 0) 0 46 0) 0 45 0) 0 49 0) 0 52 0) 0 28 0 0 q = 0 := fun q h => by
    rw [j_up_own, j_up_own, j_up_own, j_up_own, j_up_own, j_up_own, j_up_own, j_up_own, j_up_own]
    rcases h with h | h | h | h | h | h | h | h <;> subst h <;> rfl
  have en : ∀ q, q < 27 ∨ 52 < q → j_up (j_up (j_up (j_up (j_up (j_up (j_up (j_up (j_up J 0 29 0) 0 30 (-2)) 0 36 0) 0 39 0) 0 46 0) 0 45 0) 0 49 0) 0 52 0) 0 28 0 0 q = J 0 q := fun q h => by
    rw [j_up_own, if_neg (by omega), j_up_own, if_neg (by omega), j_up_own, if_neg (by omega), j_up_own, if_neg (by omega), j_up_own, if_neg (by omega), j_up_own, if_neg (by omega), j_up_own, if_neg (by omega), j_up_own, if_neg (by omega), j_up_own, if_neg (by omega)]
  revert eI e27 eg eJ e0 en
  generalize j_up (j_up (j_up (j_up (j_up (j_up (j_up (j_up I 49 10 0) 49 11 0) 49 12 0) 49 13 0) 27 0 0) 27 7 0) 27 14 0) 27 16 0 = Ia
  generalize j_up (j_up (j_up (j_up (j_up (j_up (j_up (j_up (j_up J 0 29 0) 0 30 (-2)) 0 36 0) 0 39 0) 0 46 0) 0 45 0) 0 49 0) 0 52 0) 0 28 0 = Ja
  intro eI e27 eg eJ e0 en
  refine jW2_go rfl rfl (tok_call36 (d := d) (e := e + 3) (m := m) hn h888 (fun q hq => by rw [eI 4 (by decide) (by decide)]; exact hI q hq) (fun q hq => by rw [eJ 6 (by decide)]; exact hJ q hq) (rCst_eq1 hr (fun c hc _ => eJ c hc)) (e27 0 (by decide)) (e0 29 (by decide))) ?_
  rintro v S w S' ⟨rfl, I1, L1, J1, L1', rfl, rfl, f1, f2, hh⟩
  have fr : pF 49 I I1 L L1 J J1 L' L1' := ⟨fun c h1 h2 => by rw [f1.1 c (by omega) (by omega) (by omega)]; exact eI c (by omega) (by omega), fun c h => f1.2.2 c (by omega), fun c h1 h2 => by rw [f2.1 c h1 (by omega) (by omega)]; exact eJ c h1, fun q h => by rw [f2.2.1 q (by omega) (by omega) (by omega)]; exact en q h, fun c h => f2.2.2 c (by omega)⟩
  rcases hh with ⟨rfl, p, g1, g2, g3, g4⟩ | ⟨rfl, g1, g2, T, K, P, N, hT, g3, g4, g5, g6, g7, g8, g9, g10, g11⟩
  · dsimp only [Option.toList_some, Option.toList_none, List.cons_append, List.nil_append]
    rw [B2_34_m3_g49, B261_51_a6, if_pos rfl, if_pos (by decide)]
    have hb : sB I1 J1 := ⟨1, p, by decide, by decide, g1, g2, g3, g4⟩
    have pe := parse_e49_36 (d := d + 5) (e := e + 5) (L1 := L1) (L1' := L1') (pa := pa) (pb := pb) (pw := pw) hb.f.1 hb.f.2 0
    rw [pe.1]
    exact jW2_some ⟨I1, L1, J1, L1', 0, rfl, rfl, rfl, rfl, fr, Or.inr ⟨rfl, hb⟩⟩
  · dsimp only [Option.toList_some, Option.toList_none, List.cons_append, List.nil_append]
    rw [B2_34_m3_g49, B261_51_a6, if_neg (by decide)]
    have tk := tkS_of hn hT g3 g5 g6 g7 g8 g9 g10 g11
    have kw1 : kwS L1 := by
      unfold kwS at kw ⊢
      rw [f1.2.2 35 (by decide), f1.2.2 36 (by decide), f1.2.2 37 (by decide)]
      exact kw
    have c0 : ∀ q, q = 7 ∨ q = 14 ∨ q = 16 → I1 27 q = nI 0 := fun q h => (f1.2.1 q (by omega) (by omega) (by omega)).trans (e27 q (by omega))
    have cg : ∀ q, q = 10 ∨ q = 11 ∨ q = 12 ∨ q = 13 → I1 49 q = nI 0 := fun q h => by rw [f1.1 49 (by decide) (by decide) (by decide)]; exact eg q h
    have d0 : ∀ q, q = 28 ∨ q = 36 ∨ q = 39 ∨ q = 45 ∨ q = 46 ∨ q = 49 ∨ q = 52 → J1 0 q = nI 0 := fun q h => (f2.2.1 q (by omega) (by omega) (by omega)).trans (e0 q (by omega))
    have hS : pS 49 T (upN K T 0) (upN P T n) (fun j => bts m (P j) (N j)) (fun j => nW 10 48 (bts m (P j) (N j))) 0 cw0 (fun _ => 0) (fun _ => 0) 0 0 0 (fun _ => 0) 0 0 0 0 I1 L1 J1 L1' :=
      ⟨⟨tk, kw1, ⟨by omega, c0 14 (by decide), by omega, by omega, by omega, d0 39 (by decide), d0 46 (by decide), d0 49 (by decide), fun q hq => absurd hq (Nat.not_lt_zero _), fun q hq => absurd hq (Nat.not_lt_zero _), fun q hq => absurd hq (Nat.not_lt_zero _), fun q hq => absurd hq (Nat.not_lt_zero _), fun q r hq => absurd hq (Nat.not_lt_zero _)⟩, ⟨by omega, c0 16 (by decide), d0 52 (by decide), fun q hq => absurd hq (Nat.not_lt_zero _), fun q r hq => absurd hq (Nat.not_lt_zero _)⟩, by omega, by omega, by omega, g1, g2, c0 7 (by decide), d0 28 (by decide), cg 10 (by decide), d0 36 (by decide)⟩, cg 11 (by decide), cg 12 (by decide), cg 13 (by decide), rfl, d0 45 (by decide), by omega, fun i hi => absurd hi (Nat.not_lt_zero _), fun i hi => absurd hi (Nat.not_lt_zero _), fun i hi => absurd hi (Nat.not_lt_zero _), fun _ _ _ => Nat.le_refl _, Nat.le_refl _⟩
    refine jW2_mono (parse_l49_36 (d := d + 3) (e := e + 3) (Q0 := 0) (by omega) (by omega) (T + 1) _ _ _ _ _ _ _ _ _ 0 0 0 0 I1 L1 J1 L1' (by omega) hS (Nat.le_refl _)) ?_
    rintro v S w S' ⟨I2, L2, J2, L2', x, e1, e2, e3, e4, fr2, z2⟩
    exact ⟨I2, L2, J2, L2', x, e1, e2, e3, e4, ⟨fun c h1 h2 => (fr2.1 c h1 h2).trans (fr.1 c h1 h2), fun c h => (fr2.2.2.2.2.2.1 c (by omega) (by omega)).trans (fr.2.1 c h), fun c h1 h2 => (fr2.2.2.2.2.2.2.1 c h1 (by omega)).trans (fr.2.2.1 c h1 h2), fun q h => (fr2.2.2.2.2.2.2.2.1 q (by omega)).trans (fr.2.2.2.1 q h), fun c h => (fr2.2.2.2.2.2.2.2.2 c (by omega)).trans (fr.2.2.2.2 c h)⟩, z2⟩
end CRSA
