/-! THE REFERENCE'S nest where there are no plates -/
def noPl (I : Nat → Nat → Int32) : Prop := ∀ p, p < 8 → ∀ j, j < 14 → I 6 (600 + p * 14 + j) = 0
theorem sh0 : ∀ i, i < 24 → (0 : Int32) + (((0 : Int32) >>> (nI i &&& 31)) &&& 1) = 0 := by decide +kernel
section NEST
variable {d : Nat} {I : Nat → Nat → Int32} {L : Nat → Nat → Int64} {K : Option Value → jS → jO}
theorem cells_0 (hc : rCst I) (hz : noPl I) {p : Nat} (hp : p < 8) (o2 o3 o4 : Option Value) : jv (d + 1) 330 0 [some (.ref 0), some (.int (nI p)), o2, o3, o4] [] (shR, I, L, pR) = some (some (.int 0), (shR, I, L, pR)) := by
  rw [B330_0]
  have row : ∀ j, j < 12 → ∀ o : Option Value, jv (d + 1) 330 4 [some (.ref 0), some (.int (nI p)), some (.int 0), some (.int (nI j)), o] [] (shR, I, L, pR) = jv (d + 1) 330 4 [some (.ref 0), some (.int (nI p)), some (.int 0), some (.int (nI (j + 1))), some (.int (nI 24))] [] (shR, I, L, pR) := by
    intro j hj o
    rw [B330_4, if_pos (show nI j < (12 : Int32) from nI_lt hj (by decide))]
    have h := j_run (fun i => jv (d + 1) 330 13 [some (.ref 0), some (.int (nI p)), some (.int 0), some (.int (nI j)), some (.int (nI i))] [] (shR, I, L, pR)) 24 (fun i hi => by
      have g : ∀ K, jgo jTT jMM (d + 1) 214 [.ref 0, .int 7, .int (nI p), .int (nI j)] (shR, I, L, pR) K = K (some (.int (nI (600 + p * 14 + j)))) (shR, I, L, pR) := fun K => jgo_some rfl (at_ok (t := 7) hc (by decide) p j)
      show jv (d + 1) 330 13 _ _ _ = jv (d + 1) 330 13 _ _ _
      rw [B330_13, if_pos (show nI i < (24 : Int32) from nI_lt hi (by decide)), g]
      dsimp only [Option.toList_some, List.cons_append, List.nil_append]
      rw [B330_33, if_pos (j_in_nI (by omega) (by decide)), nI_clamp (by omega), hz p hp j (by omega), sh0 i hi, nI_1])
    refine h.trans ?_
    show jv (d + 1) 330 13 _ _ _ = _
    rw [B330_13, if_neg (show ¬ nI 24 < (24 : Int32) by decide), nI_1]
  obtain ⟨y, hy⟩ := j_runE (fun j (o : Option Value) => jv (d + 1) 330 4 [some (.ref 0), some (.int (nI p)), some (.int 0), some (.int (nI j)), o] [] (shR, I, L, pR)) 12 (fun j hj o => ⟨_, row j hj o⟩) o4
  refine hy.trans ?_
  show jv (d + 1) 330 4 _ _ _ = _
  rw [B330_4, if_neg (show ¬ nI 12 < (12 : Int32) by decide)]
theorem j_fill_1 (f : Nat → Int32) (n : Nat) : va_up (j_fill f (fun _ => 1) n) n 1 = j_fill f (fun _ => 1) (n + 1) := j_fill_succ f (fun _ => 1) n
/-- the plates that are done after r rounds -/
def dnI (I : Nat → Nat → Int32) (r : Nat) : Nat → Nat → Int32 := va_up (j_up I 0 88 0) 57 (j_fill (clr (I 57) 0 8) (fun _ => 1) r)
theorem dnI_6 (r j : Nat) : dnI I r 6 j = I 6 j := by
  unfold dnI j_up
  rw [va_up_ne _ _ (by decide), va_up_ne _ _ (by decide)]
theorem dnI_cst (hc : rCst I) (r : Nat) : rCst (dnI I r) := (rCst_up0 hc _).up (by decide) _
theorem dnI_no (hz : noPl I) (r : Nat) : noPl (dnI I r) := fun p hp j hj => by rw [dnI_6]; exact hz p hp j hj
theorem round_0 (hc : rCst I) (hz : noPl I) {r : Nat} (hr : r < 8) (o3 o4 : Option Value) : jv (d + 2) 331 30 [some (.ref 0), some (.ref 57), some (.int (nI r)), o3, o4] [] (shR, dnI I r, L, pR) = jv (d + 2) 331 30 [some (.ref 0), some (.ref 57), some (.int (nI (r + 1))), some (.int (nI r)), some (.int 0)] [] (shR, dnI I (r + 1), L, pR) := by
  have hc' := dnI_cst hc r
  have hz' := dnI_no hz r
  have hD : ∀ k, dnI I r 57 k = j_fill (clr (I 57) 0 8) (fun _ => 1) r k := fun k => by
    unfold dnI
    rw [va_up_self]
  have hst : j_up (dnI I r) 57 r 1 = dnI I (r + 1) := by
    unfold dnI
    rw [j_up_va_self, j_fill_1]
  rw [B331_30, if_pos (show nI r < (8 : Int32) from nI_lt hr (by decide))]
  have h := j_run (fun k => jv (d + 2) 331 41 [some (.ref 0), some (.ref 57), some (.int (nI r)), some (.int (if k ≤ r then -1 else nI r)), some (.int (nI k))] [] (shR, dnI I r, L, pR)) 8 (fun k hk => by
    show jv (d + 2) 331 41 _ _ _ = jv (d + 2) 331 41 _ _ _
    rw [B331_41, if_pos (show nI k < (8 : Int32) from nI_lt hk (by decide)), if_pos (j_in_nI hk (by decide)), nI_clamp (by omega), hD k]
    by_cases h1 : k < r
    · rw [show j_fill (clr (I 57) 0 8) (fun _ => 1) r k = 1 from by unfold j_fill; rw [if_pos h1], if_neg (by decide), B331_78, B331_79, nI_1, if_pos (show k ≤ r by omega), if_pos (show k + 1 ≤ r by omega)]
    · have hv : j_fill (clr (I 57) 0 8) (fun _ => 1) r k = 0 := by
        unfold j_fill clr
        rw [if_neg h1, if_pos (by omega)]
      rw [hv, if_pos rfl]
      by_cases h2 : k = r
      · subst h2
        rw [if_pos (Nat.le_refl k), if_pos (by decide), B331_73, B331_79, nI_1, if_neg (show ¬ k + 1 ≤ k by omega)]
      · have g : ∀ q, q < 8 → ∀ K, jgo jTT jMM (d + 2) 330 [.ref 0, .int (nI q)] (shR, dnI I r, L, pR) K = K (some (.int 0)) (shR, dnI I r, L, pR) := fun q hq K => jgo_some rfl (cells_0 hc' hz' hq none none none)
        rw [if_neg (show ¬ k ≤ r by omega), if_neg (nI_pos (by omega)), g k hk]
        dsimp only [Option.toList_some, List.cons_append, List.nil_append]
        rw [B331_65, g r hr]
        dsimp only [Option.toList_some, List.cons_append, List.nil_append]
        rw [B331_70, if_neg (by decide), B331_78, B331_79, nI_1, if_neg (show ¬ k + 1 ≤ r by omega)])
  refine Eq.trans ?_ (h.trans ?_)
  · show _ = jv (d + 2) 331 41 [some (.ref 0), some (.ref 57), some (.int (nI r)), some (.int (if 0 ≤ r then -1 else nI r)), some (.int (nI 0))] [] (shR, dnI I r, L, pR)
    rw [if_pos (Nat.zero_le r)]
    rfl
  · show jv (d + 2) 331 41 [some (.ref 0), some (.ref 57), some (.int (nI r)), some (.int (if 8 ≤ r then -1 else nI r)), some (.int (nI 8))] [] (shR, dnI I r, L, pR) = _
    have g : ∀ I : Nat → Nat → Int32, rCst I → ∀ K, jgo jTT jMM (d + 2) 214 [.ref 0, .int 7, .int (nI r), .int 12] (shR, I, L, pR) K = K (some (.int (nI (600 + r * 14 + 12)))) (shR, I, L, pR) := fun I hc K => jgo_some rfl (at_ok (t := 7) hc (by decide) r 12)
    rw [if_neg (show ¬ 8 ≤ r by omega), B331_41, if_neg (show ¬ nI 8 < (8 : Int32) by decide), if_pos (j_in_nI hr (by decide)), nI_clamp (by omega), nb1, hst, B331_93, g _ (dnI_cst hc (r + 1))]
    dsimp only [Option.toList_some, List.cons_append, List.nil_append]
    rw [B331_108, if_pos (j_in_nI (by omega) (by decide)), nI_clamp (by omega), dnI_no hz (r + 1) r hr 12 (by decide), if_neg (by decide), nI_1]
theorem list_0 (hc : rCst I) (hz : noPl I) (o1 o2 o3 o4 : Option Value) : jv (d + 2) 331 0 [some (.ref 0), o1, o2, o3, o4] [] (shR, I, L, pR) = some (none, (shR, dnI I 8, L, pR)) := by
  rw [B331_0]
  have e57 : j_up I 0 88 0 57 = I 57 := by
    unfold j_up
    rw [va_up_ne _ _ (by decide)]
  have h1 := j_run (fun i => jv (d + 2) 331 12 [some (.ref 0), some (.ref 57), some (.int (nI i)), o3, o4] [] (shR, va_up (j_up I 0 88 0) 57 (clr (I 57) 0 i), L, pR)) 8 (fun i hi => by
    show jv (d + 2) 331 12 _ _ _ = jv (d + 2) 331 12 _ _ _
    have e := clr_s (I 57) 0 i
    rw [Nat.zero_add] at e
    rw [B331_12, if_pos (show nI i < (8 : Int32) from nI_lt hi (by decide)), if_pos (j_in_nI hi (by decide)), nI_clamp (by omega), nb0, j_up_va_self, e, nI_1])
  refine Eq.trans ?_ (h1.trans ?_)
  · show _ = jv (d + 2) 331 12 [some (.ref 0), some (.ref 57), some (.int (nI 0)), o3, o4] [] (shR, va_up (j_up I 0 88 0) 57 (clr (I 57) 0 0), L, pR)
    rw [clr_0, ← e57, va_up_same]
    rfl
  · show jv (d + 2) 331 12 [some (.ref 0), some (.ref 57), some (.int (nI 8)), o3, o4] [] (shR, va_up (j_up I 0 88 0) 57 (clr (I 57) 0 8), L, pR) = _
    rw [B331_12, if_neg (show ¬ nI 8 < (8 : Int32) by decide)]
    have e0 : va_up (j_up I 0 88 0) 57 (clr (I 57) 0 8) = dnI I 0 := by
      unfold dnI
      rw [j_fill_zero]
    rw [e0]
    obtain ⟨y, hy⟩ := j_runE (fun r (o : Option Value × Option Value) => jv (d + 2) 331 30 [some (.ref 0), some (.ref 57), some (.int (nI r)), o.1, o.2] [] (shR, dnI I r, L, pR)) 8 (fun r hr o => ⟨(some (.int (nI r)), some (.int 0)), round_0 hc hz hr o.1 o.2⟩) (o3, o4)
    refine hy.trans ?_
    show jv (d + 2) 331 30 [some (.ref 0), some (.ref 57), some (.int (nI 8)), y.1, y.2] [] (shR, dnI I 8, L, pR) = _
    rw [B331_30, if_neg (show ¬ nI 8 < (8 : Int32) by decide)]
end NEST
theorem rI_no : noPl (j_up rI0 0 87 1) := by
  intro p hp j hj
  have e : j_up rI0 0 87 1 6 (600 + p * 14 + j) = m0f (600 + p * 14 + j) := rfl
  rw [e, m0f_big (by omega)]
theorem kz_nest (j : Nat) (hj : j < 4) : ∃ v : Int32, jEnds 203 [.int (nI j)] SC0 (.int v) ∧ jEnds 334 [.int (nI j)] SR0 (.int v) := by
  refine ⟨0, nest_c0 hj, ?_⟩
  have hc : rCst (j_up rI0 0 87 1) := rCst_up0 rI0_cst _
  have h : ∀ d, ∃ I, jv (d + 6) 334 0 [some (.ref 0), some (.int (nI j)), none] [] SR0 = some (some (.int 0), (shR, I, (fun _ _ => 0), pR)) := by
    intro d
    have g : ∀ K, jgo jTT jMM (d + 6) 331 [.ref 0] (shR, j_up rI0 0 87 1, (fun _ _ => 0), pR) K = K none (shR, dnI (j_up rI0 0 87 1) 8, (fun _ _ => 0), pR) := fun K => jgo_some rfl (list_0 (d := d + 3) hc rI_no none none none none)
    refine ⟨va_up (va_up (j_up (dnI (j_up rI0 0 87 1) 8) 0 89 0) 53 (clr (j_up (dnI (j_up rI0 0 87 1) 8) 0 89 0 53) 0 18432)) 54 (clr (j_up (dnI (j_up rI0 0 87 1) 8) 0 89 0 54) 0 18432), ?_⟩
    show jv (d + 6) 334 0 [some (.ref 0), some (.int (nI j)), none] [] (shR, rI0, (fun _ _ => 0), pR) = _
    rw [B334_0, if_neg (nI_pos (by omega)), if_neg (show ¬ (3 : Int32) < nI j from nI_nlt (a := 3) (by omega) (by decide)), if_pos fr_0_18, if_pos nb1, g]
    dsimp only [Option.toList_none, List.nil_append]
    rw [B334_30]
    have h88 : j_up (dnI (j_up rI0 0 87 1) 8) 0 89 0 0 88 = 0 := rfl
    have h89 : j_up (dnI (j_up rI0 0 87 1) 8) 0 89 0 0 89 = 0 := rfl
    generalize j_up (dnI (j_up rI0 0 87 1) 8) 0 89 0 = Y at h88 h89
    have h1 := j_run (fun i => jv (d + 6) 334 37 [some (.ref 0), some (.int (nI j)), some (.int (nI i))] [] (shR, va_up (va_up Y 53 (clr (Y 53) 0 i)) 54 (clr (Y 54) 0 i), (fun _ _ => 0), pR)) 18432 (fun i hi => by
      show jv (d + 6) 334 37 _ _ _ = jv (d + 6) 334 37 _ _ _
      have e1 := clr_s (Y 53) 0 i
      have e2 := clr_s (Y 54) 0 i
      rw [Nat.zero_add] at e1 e2
      rw [B334_37, if_pos (show nI i < (18432 : Int32) from nI_lt hi (by decide)), if_pos (j_in_nI hi (by decide)), if_pos (j_in_nI hi (by decide)), nI_clamp (by omega), nb0, j_up_va_ne _ (by decide), j_up_va_self, j_up_va_self, e1, e2, nI_1])
    have h0 : jv (d + 6) 334 37 [some (.ref 0), some (.int (nI j)), some (.int 0)] [] (shR, Y, (fun _ _ => 0), pR) = jv (d + 6) 334 37 [some (.ref 0), some (.int (nI j)), some (.int (nI 18432))] [] (shR, va_up (va_up Y 53 (clr (Y 53) 0 18432)) 54 (clr (Y 54) 0 18432), (fun _ _ => 0), pR) := by
      refine Eq.trans ?_ h1
      show _ = jv (d + 6) 334 37 [some (.ref 0), some (.int (nI j)), some (.int (nI 0))] [] (shR, va_up (va_up Y 53 (clr (Y 53) 0 0)) 54 (clr (Y 54) 0 0), (fun _ _ => 0), pR)
      rw [clr_0, clr_0, va_up_same, va_up_same]
      rfl
    have e88 : va_up (va_up Y 53 (clr (Y 53) 0 18432)) 54 (clr (Y 54) 0 18432) 0 = Y 0 := by rw [va_up_ne _ _ (by decide), va_up_ne _ _ (by decide)]
    rw [h0, B334_37, if_neg (show ¬ nI 18432 < (18432 : Int32) by decide), B334_66, e88, h88, if_neg (by decide), h89]
  obtain ⟨I, hI⟩ := h 1894
  exact ⟨_, rfl, hI, rfl⟩
theorem ar_sea (x : Int32) : ∃ v : Int32, jEnds 193 [.int x] SC0 (.int v) ∧ jEnds 319 [.int x] SR0 (.int v) := by
  by_cases h0 : x < 0
  · exact ⟨-1, ends_c0 rfl (fun d => (show jv (d + 6) 193 0 [some (.ref 0), some (.int x)] [] SC0 = some (some (.int (-1)), SC0) from by simp (decide := true) only [SC0, B193_0, B193_29, h0, ↓reduceIte])), ends_r0 rfl (fun d => (show jv (d + 6) 319 0 [some (.ref 0), some (.int x), none] [] SR0 = some (some (.int (-1)), SR0) from by simp (decide := true) only [SR0, B319_0, B319_11, h0, ↓reduceIte]))⟩
  by_cases h1 : 65535 < x
  · have h2 := i_nlt65536 h1
    exact ⟨-1, ends_c0 rfl (fun d => (show jv (d + 6) 193 0 [some (.ref 0), some (.int x)] [] SC0 = some (some (.int (-1)), SC0) from by simp (decide := true) only [SC0, B193_0, B193_29, sh16, h0, h2, ↓reduceIte])), ends_r0 rfl (fun d => (show jv (d + 6) 319 0 [some (.ref 0), some (.int x), none] [] SR0 = some (some (.int (-1)), SR0) from by simp (decide := true) only [SR0, B319_0, B319_11, h0, h1, ↓reduceIte]))⟩
  · obtain ⟨n, hn, rfl⟩ := i_small h0 (i_lt65536 h1) (by decide)
    by_cases h3 : n = 0
    · subst h3
      exact kz_sea
    · exact ar_sea_n hn h3
