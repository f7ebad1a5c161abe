/-! WHAT THE STATEMENT GIVES OF THE START: static arrays, texts, tables -/
def jfl : List Jvm.Cond := flatC (Jvm.Cond.and given_1 narrow_1)
def fpA : List Nat := [5, 21, 236, 37, 134, 53, 155]
def fpT : List Nat := [251, 296, 377, 447, 469, 492, 504, 519, 534, 588, 678, 757, 775, 794]
set_option maxRecDepth 100000 in
theorem fs_arr : ∀ q, q < 7 → jfl[fpA.getD q 0]? = some (.arrayOf (.static "ShipYard" (jsn.getD q "") "[I") .int) ∧ jfl[fpA.getD q 0 + 1]? = some (.eq (.length (.static "ShipYard" (jsn.getD q "") "[I")) (.int (Int32.ofNat (jTT.1.getD q []).length))) ∧ (∀ j, j < (jTT.1.getD q []).length → jfl[fpA.getD q 0 + 2 + j]? = some (.eq (.elem (.static "ShipYard" (jsn.getD q "") "[I") (.int (Int32.ofNat j))) (.int ((jTT.1.getD q []).getD j 0)))) ∧ (jTT.1.getD q []).length < 2 ^ 31 := by decide +kernel
abbrev jtm (j : Nat) : Term := .string (jtxo.getD j ("", 0)).1 (jtxo.getD j ("", 0)).2
set_option maxRecDepth 100000 in
theorem fs_txt : ∀ j, j < 14 → jfl[fpT.getD j 0]? = some (.exactly (jtm j) "java/lang/String") ∧ jfl[fpT.getD j 0 + 1]? = some (.eq (.field (jtm j) "java/lang/String" "coder" "B") (.int 0)) ∧ jfl[fpT.getD j 0 + 2]? = some (.arrayOf (.field (jtm j) "java/lang/String" "value" "[B") .byte) ∧ jfl[fpT.getD j 0 + 3]? = some (.eq (.length (.field (jtm j) "java/lang/String" "value" "[B")) (.int (Int32.ofNat (jTT.2.getD j []).length))) ∧ (∀ i, i < (jTT.2.getD j []).length → jfl[fpT.getD j 0 + 4 + i]? = some (.eq (.elem (.field (jtm j) "java/lang/String" "value" "[B") (.int (Int32.ofNat i))) (.int ((jTT.2.getD j []).getD i 0)))) ∧ (jTT.2.getD j []).length < 2 ^ 31 := by decide +kernel
theorem fs_cmp : jfl[149]? = some (.eq (.static "java/lang/String" "COMPACT_STRINGS" "Z") (.int 1)) := by decide +kernel
theorem fs_sio : jfl[150]? = some (.isRef (.static "jdk/internal/util/Preconditions" "SIOOBE_FORMATTER" "Ljava/util/function/BiFunction;")) := by decide +kernel
def fpS : List Nat := [248, 250, 953, 252, 256, 254, 947]
theorem fs_lay : ∀ q, q < 7 → j_w (fpS.getD q 0) (.laysStatic "ShipYard" (jsn.getD q "") "[I") = true := by decide +kernel
theorem fs_lc : j_w 327 (.laysStatic "java/lang/String" "COMPACT_STRINGS" "Z") = true := by decide +kernel
theorem fs_ls : j_w 343 (.laysStatic "jdk/internal/util/Preconditions" "SIOOBE_FORMATTER" "Ljava/util/function/BiFunction;") = true := by decide +kernel
def fpR : List Nat := [314, 368, 369, 1114, 1910, 1920, 1930, 1931, 1936, 1940, 1941, 1978, 1979, 1980]
theorem fs_ref : ∀ j, j < 14 → j_w (fpR.getD j 0) (.stringRef (jtxo.getD j ("", 0)).1 (jtxo.getD j ("", 0)).2 (jtx.getD j "")) = true := by decide +kernel
theorem fs_over : j_w 266 (.arrayOver (.object "ShipYard$Person")) = true := by decide +kernel
theorem j_w_in {p : Nat} {w : Jvm.Cond} (h : j_w p w = true) : w ∈ lw_tbl := by
  simp only [j_w, decide_eq_true_eq] at h
  exact List.mem_of_getElem? h
section START
variable {s : State} {args : Array Value} {A : Nat → Prop}
theorem st_stat (hs : ∀ w ∈ jfl, w.before args s = true) (hts : ∀ w ∈ lw_tbl, w.before args s = true) (hA : ∀ a : Nat, a < s.heap.size → ¬ A a) : ∃ ta : Nat → Nat, ∀ q, q < 7 → va_Z "ShipYard" (jsn.getD q "") "[I" (.ref (ta q)) A s s.heap ∧ va_T .int (ta q) (jTT.1.getD q []).length (fun j => .int ((jTT.1.getD q []).getD j 0)) A s s.heap := by
  have h : ∀ q, ∃ t, q < 7 → va_Z "ShipYard" (jsn.getD q "") "[I" (.ref t) A s s.heap ∧ va_T .int t (jTT.1.getD q []).length (fun j => .int ((jTT.1.getD q []).getD j 0)) A s s.heap := by
    intro q
    by_cases hq : q < 7
    · obtain ⟨h1, h2, h3, h4⟩ := fs_arr q hq
      obtain ⟨t, ht, hT⟩ := va_Tof (f := fun j => .int ((jTT.1.getD q []).getD j 0)) h4 (hs _ (List.mem_of_getElem? h1)) (va_eqt (hs _ (List.mem_of_getElem? h2))) (fun j hj => va_eqt (hs _ (List.mem_of_getElem? (h3 j hj)))) hA
      exact ⟨t, fun _ => ⟨va_Zref (hts _ (j_w_in (fs_lay q hq))) (hts _ (jgood_in _ cn_11)) ht hA, hT⟩⟩
    · exact ⟨0, fun z => absurd z hq⟩
  exact ⟨fun q => Classical.choose (h q), fun q hq => Classical.choose_spec (h q) hq⟩
theorem st_txt (hs : ∀ w ∈ jfl, w.before args s = true) (hts : ∀ w ∈ lw_tbl, w.before args s = true) (hA : ∀ a : Nat, a < s.heap.size → ¬ A a) : ∃ tk tw : Nat → Nat, ∀ j, j < 14 → (va_O "java/lang/String" (tk j) A s s.heap ∧ va_OF "java/lang/String" "coder" "B" (.int 0) (tk j) A s s.heap ∧ va_OF "java/lang/String" "value" "[B" (.ref (tw j)) (tk j) A s s.heap ∧ va_T .byte (tw j) (jTT.2.getD j []).length (fun i => .int ((jTT.2.getD j []).getD i 0)) A s s.heap) ∧ vk_R (jtxo.getD j ("", 0)).1 (jtxo.getD j ("", 0)).2 (jtx.getD j "") (tk j) s := by
  have h : ∀ j, ∃ t : Nat × Nat, j < 14 → (va_O "java/lang/String" t.1 A s s.heap ∧ va_OF "java/lang/String" "coder" "B" (.int 0) t.1 A s s.heap ∧ va_OF "java/lang/String" "value" "[B" (.ref t.2) t.1 A s s.heap ∧ va_T .byte t.2 (jTT.2.getD j []).length (fun i => .int ((jTT.2.getD j []).getD i 0)) A s s.heap) ∧ vk_R (jtxo.getD j ("", 0)).1 (jtxo.getD j ("", 0)).2 (jtx.getD j "") t.1 s := by
    intro j
    by_cases hj : j < 14
    · obtain ⟨h1, h2, h3, h4, h5, h6⟩ := fs_txt j hj
      obtain ⟨adK, adV, hS, hk⟩ := vk_Sof (A := A) (N := 1) (tm := fun _ => jtm j) (len := [(jTT.2.getD j []).length]) (byt := [jTT.2.getD j []]) (args := args) (s := s) (fun i hi => by rw [show i = 0 by omega]; exact h6) (fun i hi => hs _ (List.mem_of_getElem? h1)) (fun i hi => hs _ (List.mem_of_getElem? h2)) (fun i hi => hs _ (List.mem_of_getElem? h3)) (fun i hi => by rw [show i = 0 by omega]; exact hs _ (List.mem_of_getElem? h4)) (fun i hi k hk => by rw [show i = 0 by omega] at hk ⊢; exact hs _ (List.mem_of_getElem? (h5 k hk))) (fun i k hi hk hne => by omega) hA
      exact ⟨(adK 0, adV 0), fun _ => ⟨hS.1 0 (by decide), vk_R.of (A := args) (hts _ (j_w_in (fs_ref j hj))) (hk 0 (by decide))⟩⟩
    · exact ⟨(0, 0), fun z => absurd z hj⟩
  exact ⟨fun j => (Classical.choose (h j)).1, fun j => (Classical.choose (h j)).2, fun j hj => Classical.choose_spec (h j) hj⟩
theorem st_cmp (hs : ∀ w ∈ jfl, w.before args s = true) (hts : ∀ w ∈ lw_tbl, w.before args s = true) (hA : ∀ a : Nat, a < s.heap.size → ¬ A a) : va_Z "java/lang/String" "COMPACT_STRINGS" "Z" (.int 1) A s s.heap ∧ va_Zq "jdk/internal/util/Preconditions" "SIOOBE_FORMATTER" "Ljava/util/function/BiFunction;" A s s.heap :=
  ⟨va_Zof (hts _ (j_w_in fs_lc)) (hts _ (jgood_in _ wt_i)) (va_eqi (hs _ (List.mem_of_getElem? fs_cmp))) hA, va_Zqof (hts _ (j_w_in fs_ls)) (hts _ (jgood_in _ ti_3)) (hs _ (List.mem_of_getElem? fs_sio)) hA⟩
end START
def lτ (base : Nat) (ta tk tw : Nat → Nat) : Nat → Nat := fun i => if i < 1000 then base + i else if i < 2000 then ta (i - 1000) else if i < 3000 then tk (i - 2000) else tw (i - 3000)
theorem lτ0 (base : Nat) (ta tk tw : Nat → Nat) {i : Nat} (h : i < 1000) : lτ base ta tk tw i = base + i := by simp only [lτ, h, if_true]
theorem lτ1 (base : Nat) (ta tk tw : Nat → Nat) {q : Nat} (h : q < 7) : lτ base ta tk tw (1000 + q) = ta q := by
  unfold lτ
  rw [if_neg (by omega), if_pos (by omega), show 1000 + q - 1000 = q by omega]
theorem lτ2 (base : Nat) (ta tk tw : Nat → Nat) {q : Nat} (h : q < 14) : lτ base ta tk tw (2000 + q) = tk q := by
  unfold lτ
  rw [if_neg (by omega), if_neg (by omega), if_pos (by omega), show 2000 + q - 2000 = q by omega]
theorem lτ3 (base : Nat) (ta tk tw : Nat → Nat) {q : Nat} (h : q < 14) : lτ base ta tk tw (3000 + q) = tw q := by
  unfold lτ
  rw [if_neg (by omega), if_neg (by omega), if_neg (by omega), show 3000 + q - 3000 = q by omega]
/-- the classes and the arrays' classes -/
theorem st_K {s : State} {args : Array Value} (hts : ∀ w ∈ lw_tbl, w.before args s = true) : ∃ (dC : Nat → ClassId) (dI : Nat → Nat → Nat) (dA : Nat → ClassId), va_K (dC, dI) vwCl (jtl dA) s := by
  have hg : ∀ w ∈ jgood, w.before args s = true := fun w hw => hts w (jgood_in w hw)
  have h1 : ∀ ci : Nat, ∃ x : ClassId × (Nat → Nat), ∀ (C : String) (T : u_T) (N : Nat), vwCl[ci]? = some (C, T, N) → u_Kn s C T N x.1 x.2 := by
    intro ci
    cases hc : vwCl[ci]? with
    | none => exact ⟨(0, fun _ => 0), fun C T N h => by cases h⟩
    | some q =>
      obtain ⟨C, T, N⟩ := q
      obtain ⟨c1, c2, c3, c4, c5, ty, c6, c7⟩ := jCl_of ci C T N hc
      obtain ⟨cC, iS, hK⟩ := u_known hg c1 (hg _ c2)
      exact ⟨(cC, iS), fun C' T' N' h => by cases h; exact hK⟩
  have prim : ∀ ty : FieldType, Jvm.Cond.arrayClass ty ∈ jgood → (∀ n, ty ≠ .object n) → ∃ cA : ClassId, ArrOfT s cA ty ∧ va_RA s cA ty := by
    intro ty hw hno
    obtain ⟨cA, kA, comp, f1, f2, f3⟩ := Cond.arrayClass_spec (hg _ hw)
    refine ⟨cA, fun n z => ⟨fun k h => (by cases h), kA, f2, comp, f3⟩, ?_⟩
    cases ty with
    | object n => exact absurd rfl (hno n)
    | _ => exact f1
  obtain ⟨a0, i0⟩ := prim .int wa_int (by intro n h; cases h)
  obtain ⟨a1, i1⟩ := prim .byte wa_byte (by intro n h; cases h)
  obtain ⟨a2, i2⟩ := prim .boolean wa_boolean (by intro n h; cases h)
  obtain ⟨a3, i3⟩ := prim .long wa_long (by intro n h; cases h)
  obtain ⟨a4, i4⟩ : ∃ cA : ClassId, ArrOfT s cA (.object "ShipYard$Person") ∧ va_RA s cA (.object "ShipYard$Person") := by
    obtain ⟨comp, cA, kA, f4, -, f2, f3, f1⟩ := Cond.arrayOver_spec (hts _ (j_w_in fs_over))
    exact ⟨cA, fun n z => ⟨fun k h => (by cases h), kA, f2, comp, f3⟩, kA, comp, f2, f3, f4, f1⟩
  refine ⟨fun ci => (Classical.choose (h1 ci)).1, fun ci => (Classical.choose (h1 ci)).2, fun i => match i with | 0 => a0 | 1 => a1 | 2 => a2 | 3 => a3 | _ => a4, fun ci q hq => Classical.choose_spec (h1 ci) q.1 q.2.1 q.2.2 hq, fun k q hq => ?_⟩
  match k, hq with
  | 0, hq => cases hq; exact i0
  | 1, hq => cases hq; exact i1
  | 2, hq => cases hq; exact i2
  | 3, hq => cases hq; exact i3
  | 4, hq => cases hq; exact i4
  | n + 5, hq => simp at hq
/-- all that is fixed, for a world at any base -/
theorem st_fix {s : State} {b : Nat} {dC : Nat → ClassId} {dI : Nat → Nat → Nat} {dA : Nat → ClassId} {A : Nat → Prop} (hK : va_K (dC, dI) vwCl (jtl dA) s) (hs : ∀ w ∈ jfl, w.before #[Value.ref b] s = true) (hts : ∀ w ∈ lw_tbl, w.before #[Value.ref b] s = true) {ta tk tw : Nat → Nat} (h1 : ∀ q, q < 7 → va_Z "ShipYard" (jsn.getD q "") "[I" (.ref (ta q)) A s s.heap ∧ va_T .int (ta q) (jTT.1.getD q []).length (fun j => .int ((jTT.1.getD q []).getD j 0)) A s s.heap) (h2 : ∀ j, j < 14 → (va_O "java/lang/String" (tk j) A s s.heap ∧ va_OF "java/lang/String" "coder" "B" (.int 0) (tk j) A s s.heap ∧ va_OF "java/lang/String" "value" "[B" (.ref (tw j)) (tk j) A s s.heap ∧ va_T .byte (tw j) (jTT.2.getD j []).length (fun i => .int ((jTT.2.getD j []).getD i 0)) A s s.heap) ∧ vk_R (jtxo.getD j ("", 0)).1 (jtxo.getD j ("", 0)).2 (jtx.getD j "") (tk j) s) (h3 : va_Z "java/lang/String" "COMPACT_STRINGS" "Z" (.int 1) A s s.heap ∧ va_Zq "jdk/internal/util/Preconditions" "SIOOBE_FORMATTER" "Ljava/util/function/BiFunction;" A s s.heap) (base : Nat) : jFx dC dI dA (lτ base ta tk tw) A s s.heap := by
  refine ⟨hK, fun q hq => ?_, ⟨fun j hj => ?_, h3⟩, fun j hj => ?_, fun w hw => ?_, va_AO.of (hts _ (j_w_in fs_over))⟩
  · rw [lτ1 base ta tk tw hq]; exact h1 q hq
  · rw [lτ2 base ta tk tw hj, lτ3 base ta tk tw hj]; exact (h2 j hj).1
  · rw [lτ2 base ta tk tw hj]; exact (h2 j hj).2
  · have h5 := (List.mem_filter.mp hw).2
    have h6 := hts w (List.mem_filter.mp hw).1
    cases w <;> first | exact va_Nw.of rfl h6 | (simp at h5)
