/-! THE LAW: its calls, its arms, its loop -/
/-- the arms of the law: the method of the class, of the reference, how many ints, whether a long is answered -/
def jArms : List (Nat × Nat × Nat × Bool) := [(168, 220, 1, false), (169, 223, 5, false), (170, 224, 4, false), (171, 225, 5, false), (173, 227, 1, false), (174, 228, 1, false), (176, 229, 1, false), (177, 233, 1, false), (178, 234, 1, false), (179, 236, 3, false), (180, 237, 1, false), (181, 238, 1, false), (182, 239, 0, false), (183, 241, 1, false), (193, 319, 1, false), (194, 324, 1, true), (195, 325, 2, false), (196, 326, 1, false), (197, 327, 1, true), (198, 328, 2, true), (199, 294, 1, false), (200, 296, 1, false), (201, 297, 1, false), (202, 298, 2, true), (203, 334, 1, false), (204, 338, 2, false), (205, 339, 2, false), (206, 342, 0, false), (207, 344, 1, false), (208, 348, 0, false), (209, 354, 2, false), (210, 355, 2, false), (211, 356, 0, false), (212, 360, 2, false)]
def jCall (k : Nat) (as : List Value) (S : jS) (v : Value) (S' : jS) : Prop := Nat.ble (j_wd (.ref 0 :: as)) (jMM k).2 = true ∧ jev jTT jMM 1900 k 0 (j_ent (jMM k).2 (.ref 0 :: as)) [] S = some (some v, S') ∧ S'.1 = S.1
/-- n calls more of any kind are answered alike -/
def jSim : Nat → jS → jS → Prop
  | 0, _, _ => True
  | n + 1, S1, S2 => ∀ (c : Nat) (q : Nat × Nat × Nat × Bool), jArms[c]? = some q → ∀ as : List Int32, as.length = q.2.2.1 → ∃ (v : Value) (S1' S2' : jS), (match q.2.2.2 with
      | true => ∃ x, v = .long x
      | false => ∃ x, v = .int x) ∧ jCall q.1 (as.map .int) S1 v S1' ∧ jCall q.2.1 (as.map .int) S2 v S2' ∧ jSim n S1' S2'
theorem jSim_mono : ∀ (n : Nat) (S1 S2 : jS), jSim (n + 1) S1 S2 → jSim n S1 S2 := by
  intro n
  induction n with
  | zero => intro _ _ _; exact trivial
  | succ n ih =>
    intro S1 S2 h c q hq as hl
    obtain ⟨v, S1', S2', h1, h2, h3, h4⟩ := h c q hq as hl
    exact ⟨v, S1', S2', h1, h2, h3, ih S1' S2' h4⟩
def RLn : String := "ShipYardLaw"
section LAW
variable {p : Program} {l : Launch} {e : Env} {s : State} {m : MethodId} {below : List Frame} {meth : Method} {c : Code} {b : Nat} {H : Heap} {locs : List Loc} {cells slots : Nat} {Q : State → Prop}
variable {dC : Nat → ClassId} {dI : Nat → Nat → Nat} {dA : Nat → ClassId} {τ : Nat → Nat} {A : Nat → Prop}
theorem l_called {S S' : jS} {v : Option Value} {mc ms pc : Nat} {ls : Array Slot} {st0 rest : List Value} {a : Array Value} (hr : va_Run p l e room_1 s m #[Value.ref b] below meth c H locs cells slots mc ms (F0 m pc ls st0) rest (jQ dC dI dA τ A S v S' a) A) (hA0 : ∀ q, A q → s.heap.size ≤ q) (hS : va_S (fun q : Nat => s.heap.size ≤ q) s.heap H locs)
    (kk : ∀ (H1 : Heap) (locs1 : List Loc), va_P (dC, dI) vwCl (jws dA τ S') H1 → va_D A (jws dA τ S') → va_S (fun q : Nat => s.heap.size ≤ q) s.heap H1 locs1 → H.size ≤ H1.size → (∀ q : Nat, q < H.size → ¬ A q → H1[q]? = H[q]?) → (jTi τ S.1.length H → jTi τ S'.1.length H1) → W p l e room_1 s m #[Value.ref b] below meth c H1 locs1 (cells + mc) (slots + ms) Q (F0 m (pc + 3) ls ((v.map (tv τ)).toList ++ rest))) : W p l e room_1 s m #[Value.ref b] below meth c H locs cells slots Q (F0 m pc ls st0) := by
  intro T hT X
  obtain ⟨v', st₀, t, T', L, h0, X', hL, e1, e2, ⟨hv, hP, hD, ⟨hz, hk⟩, hti, hle⟩, st⟩ := hr T hT X
  cases hv
  rw [h0] at hz hk hti
  rw [← e1] at hP hz hk hti
  obtain ⟨t2, a1, b1⟩ := kk T'.heap (locs ++ L) hP hD ⟨Nat.le_trans hS.1 hz, fun q h1 h2 => by rw [hk q (Nat.lt_of_lt_of_le h1 hS.1) (fun z => h2 (hA0 q z))]; exact hS.2.1 q h1 h2, fun q hq => by
      rcases List.mem_append.mp hq with h | h
      · exact hS.2.2 q h
      · exact hA0 _ (hL q h)⟩ hz hk hti T' rfl X'
  exact ⟨t2, st t2 a1, b1⟩
theorem l_ints (τ : Nat → Nat) (as : List Int32) : (as.map Value.int).map (tv τ) = as.map Value.int := by
  rw [List.map_map]
  exact List.map_congr_left (fun _ _ => rfl)
set_option maxRecDepth 20000 in
theorem l_rm {L : Nat} (h : L ≤ 23) : 1908 + 1 ≤ room_1.frames ∧ 8 + (L + 11) + 42 * 1908 ≤ room_1.locals := by
  refine ⟨by decide, ?_⟩
  show 8 + (L + 11) + 42 * 1908 ≤ 84000
  omega
/-- a call of the law's -/
theorem l_callV (hx : p.tables.exec = Jvm.exec) (hb : c.code = code) (hml : c.maxLocals = 4) (hown : s.vm.findClass RLn = some m.cls) (hts : ∀ w ∈ lw_tbl, w.before #[Value.ref b] s = true) (hfx : jFx dC dI dA τ A s s.heap) (hA0 : ∀ q, A q → s.heap.size ≤ q) {S S' : jS} {v : Value} (hP : va_P (dC, dI) vwCl (jws dA τ S) H) (hD : va_D A (jws dA τ S)) (hS : va_S (fun q : Nat => s.heap.size ≤ q) s.heap H locs) (hAe : ∀ q, H.size ≤ q → A q) (hle : 0 < S.1.length ∧ S.1.length ≤ 1000)
    {k' idx w n ci nn pc : Nat} {Cn : String} {T : u_T} {NN : Nat} (hc : vwCl[ci]? = some (Cn, T, NN)) (hcl : (jY k').1.cls = Cn) (ho : j_sh S.1 0 = some (ci, nn)) (hk0 : (jpos.getD k' []).getD 4 9 = 1) (hkl : k' < jYL.length) (hw : j_w w (.methodLink RLn idx (jY k').1) = true) (hnp : j_np (jY k').1 n = true) (hd : decode code pc = .ok (.invokevirtual idx, 3)) {as : List Int32} (hlen : as.length = n) (hcall : jCall k' (as.map .int) S v S') (hroom : cells ≤ room_1.cells ∧ slots ≤ room_1.slots) {ls : Array Slot} (hls : ls.size = 4) {rest : List Value} (h8 : (rest.map fun v => v.category).sum ≤ 8)
    (kk : ∀ (H1 : Heap) (locs1 : List Loc), va_P (dC, dI) vwCl (jws dA τ S') H1 → va_D A (jws dA τ S') → va_S (fun q : Nat => s.heap.size ≤ q) s.heap H1 locs1 → H.size ≤ H1.size → (∀ q : Nat, q < H.size → ¬ A q → H1[q]? = H[q]?) → W p l e room_1 s m #[Value.ref b] below meth c H1 locs1 cells slots Q (F0 m (pc + 3) ls (tv τ v :: rest))) : W p l e room_1 s m #[Value.ref b] below meth c H locs cells slots Q (F0 m pc ls ((as.map Value.int).reverse ++ .ref (τ 0) :: rest)) := by
  obtain ⟨hfit, hev, hsh⟩ := hcall
  have hg : ∀ w ∈ jgood, w.before #[Value.ref b] s = true := fun w hw => hts w (jgood_in w hw)
  have hM := j_contract jAll_holds dC dI dA (jStr_holds l τ A) hfit hev
  have hz1 : S'.1.length - S.1.length = 0 := by rw [hsh]; omega
  have hz2 : jsz S'.1 - jsz S.1 = 0 := by rw [hsh]; omega
  obtain ⟨m1, m2, m3, m4, m5, m6, m7, m8, m9, m10⟩ := okM_of (jAll_holds.1 k' hkl)
  have c5 := (jCl_of ci Cn T NN hc).2.2.2.2.1
  have hpc : ∀ U : State, U.heap = H → s.WarmedH U.vm → jPc dC dI dA τ A (.ref 0 :: as.map .int) S S' (((.ref 0 :: as.map .int) : List Value).map (tv τ)).toArray U := by
    intro U hU hW
    refine ⟨rfl, ?_⟩
    dsimp only
    rw [hU]
    exact ⟨hP, hD, (hfx.warm hW).kept (fun a h1 h2 => hS.2.1 a h1 (fun z => absurd z (Nat.not_le.mpr h1))), hAe, fun z => absurd (by rw [hsh]) z, hle.1, hle.2⟩
  have hrun := va_runV (p := p) (e := e) (m := m) (below := below) (meth := meth) (c := c) (locs := locs) (cells := cells) (slots := slots) (R := room_1) (H := H) (C := Cn) (b := τ 0) (As := as.map Value.int) (n := n) (rest := rest) (g := F0 m pc ls ((as.map Value.int).reverse ++ .ref (τ 0) :: rest)) ⟨hx, hb, hml, hown, hg⟩ hM ⟨callB_of n hg (j_good_cons m1) rfl rfl rfl (hg _ m2) (hg _ (j_w_good hw rfl)) ⟨m4, m5, by simpa [j_np] using hnp⟩ (l_rm m6), hg _ (m9 hk0).1, by rw [← hcl]; exact hg _ (m9 hk0).2⟩ ⟨jPc_blind, va_recv (j_ty hfx) hP hc (j_obj ho c5), fun U hU hW => by
      have h := hpc U hU hW
      rw [List.map_cons, l_ints] at h
      exact h⟩ rfl (by simpa using hlen) hls rfl (lv_room h8) hd ⟨by rw [hz1]; exact hroom.1, by rw [hz2]; exact hroom.2⟩
  refine l_called hrun hA0 hS (fun H1 locs1 hP1 hD1 hS1 hsz hk _ => ?_)
  rw [hz1, hz2, Nat.add_zero, Nat.add_zero]
  exact kk H1 locs1 hP1 hD1 hS1 hsz hk
/-- the two worlds beside each other -/
def jLW (s : State) (dC : Nat → ClassId) (dI : Nat → Nat → Nat) (dA : Nat → ClassId) (τ1 τ2 : Nat → Nat) (A1 A2 : Nat → Prop) (sz : Nat) (S1 S2 : jS) (H : Heap) (locs : List Loc) : Prop := va_P (dC, dI) vwCl (jws dA τ1 S1) H ∧ va_D A1 (jws dA τ1 S1) ∧ va_P (dC, dI) vwCl (jws dA τ2 S2) H ∧ va_D A2 (jws dA τ2 S2) ∧ va_S (fun q : Nat => s.heap.size ≤ q) s.heap H locs ∧ sz ≤ H.size ∧ S1.1 = shC ∧ S2.1 = shR
/-- what is fixed of the two worlds -/
def jL2 (s : State) (dC : Nat → ClassId) (dI : Nat → Nat → Nat) (dA : Nat → ClassId) (τ1 τ2 : Nat → Nat) (A1 A2 : Nat → Prop) (sz : Nat) : Prop := jFx dC dI dA τ1 A1 s s.heap ∧ jFx dC dI dA τ2 A2 s s.heap ∧ (∀ q, A1 q → s.heap.size ≤ q) ∧ (∀ q, A2 q → s.heap.size ≤ q) ∧ (∀ q, sz ≤ q → A1 q) ∧ (∀ q, sz ≤ q → A2 q) ∧ (∀ i, i < 78 → ¬ A1 (τ2 i) ∧ τ2 i < sz) ∧ (∀ i, i < 121 → ¬ A2 (τ1 i) ∧ τ1 i < sz)
end LAW
set_option maxRecDepth 100000 in
theorem shC_len : shC.length = 121 ∧ j_sh shC 0 = some (11, 20) := by decide +kernel
set_option maxRecDepth 100000 in
theorem shR_len : shR.length = 78 ∧ j_sh shR 0 = some (12, 128) := by decide +kernel
theorem jws_kept {dC : Nat → ClassId} {dI : Nat → Nat → Nat} {dA : Nat → ClassId} {τ : Nat → Nat} {S : jS} {H H1 : Heap} (hP : va_P (dC, dI) vwCl (jws dA τ S) H) (h : ∀ i, i < S.1.length → H1[τ i]? = H[τ i]?) : va_P (dC, dI) vwCl (jws dA τ S) H1 := by
  refine hP.kept (fun k q hq => ?_)
  rw [jws_get] at hq
  by_cases hk : k < S.1.length
  · rw [if_pos hk] at hq
    cases hq
    exact h k hk
  · rw [if_neg hk] at hq
    cases hq
section LAW2
variable {p : Program} {l : Launch} {e : Env} {s : State} {m : MethodId} {below : List Frame} {meth : Method} {c : Code} {b L : Nat} {xs : Nat → Int32} {H : Heap} {locs : List Loc} {cells slots : Nat} {Q : State → Prop}
variable {dC : Nat → ClassId} {dI : Nat → Nat → Nat} {dA : Nat → ClassId} {τ1 τ2 : Nat → Nat} {A1 A2 : Nat → Prop} {sz : Nat} {S1 S2 : jS}
/-- a call of the class's -/
theorem l_x (C0 : lw_At p s m meth c b L xs) (C2 : jL2 s dC dI dA τ1 τ2 A1 A2 sz) (F : jLW s dC dI dA τ1 τ2 A1 A2 sz S1 S2 H locs) {S' : jS} {v : Value} {k' idx w n pc : Nat} (hcl : (jY k').1.cls = RX11) (hk0 : (jpos.getD k' []).getD 4 9 = 1) (hkl : k' < jYL.length) (hw : j_w w (.methodLink RLn idx (jY k').1) = true) (hnp : j_np (jY k').1 n = true) (hd : decode code pc = .ok (.invokevirtual idx, 3)) {as : List Int32} (hlen : as.length = n) (hcall : jCall k' (as.map .int) S1 v S') (hroom : cells ≤ room_1.cells ∧ slots ≤ room_1.slots) {ls : Array Slot} (hls : ls.size = 4) {rest : List Value} (h8 : (rest.map fun v => v.category).sum ≤ 8)
    (kk : ∀ (H1 : Heap) (locs1 : List Loc), jLW s dC dI dA τ1 τ2 A1 A2 sz S' S2 H1 locs1 → W p l e room_1 s m #[Value.ref b] below meth c H1 locs1 cells slots Q (F0 m (pc + 3) ls (tv τ1 v :: rest))) : W p l e room_1 s m #[Value.ref b] below meth c H locs cells slots Q (F0 m pc ls ((as.map Value.int).reverse ++ .ref (τ1 0) :: rest)) := by
  obtain ⟨hx, hb, hr, hml, hown, hts, hX, hbl, hlk, hgv⟩ := C0
  obtain ⟨f1, f2, a1, a2, z1, z2, g1, g2⟩ := C2
  obtain ⟨hP1, hD1, hP2, hD2, hS, hz, s1, s2⟩ := F
  refine l_callV hx hb hml hown hts f1 a1 hP1 hD1 hS (fun q hq => z1 q (Nat.le_trans hz hq)) (by rw [s1, shC_len.1]; decide) (ci := 11) rfl hcl (by rw [s1]; exact shC_len.2) hk0 hkl hw hnp hd hlen hcall hroom hls h8 (fun H1 locs1 hP3 hD3 hS3 hsz hk => kk H1 locs1 ⟨hP3, hD3, ?_, hD2, hS3, Nat.le_trans hz hsz, hcall.2.2.trans s1, s2⟩)
  refine jws_kept hP2 (fun i hi => ?_)
  rw [s2, shR_len.1] at hi
  exact hk _ (Nat.lt_of_lt_of_le (g1 i hi).2 hz) (g1 i hi).1
theorem l_m (C0 : lw_At p s m meth c b L xs) (C2 : jL2 s dC dI dA τ1 τ2 A1 A2 sz) (F : jLW s dC dI dA τ1 τ2 A1 A2 sz S1 S2 H locs) {S' : jS} {v : Value} {k' idx w n pc : Nat} (hcl : (jY k').1.cls = RX12) (hk0 : (jpos.getD k' []).getD 4 9 = 1) (hkl : k' < jYL.length) (hw : j_w w (.methodLink RLn idx (jY k').1) = true) (hnp : j_np (jY k').1 n = true) (hd : decode code pc = .ok (.invokevirtual idx, 3)) {as : List Int32} (hlen : as.length = n) (hcall : jCall k' (as.map .int) S2 v S') (hroom : cells ≤ room_1.cells ∧ slots ≤ room_1.slots) {ls : Array Slot} (hls : ls.size = 4) {rest : List Value} (h8 : (rest.map fun v => v.category).sum ≤ 8)
    (kk : ∀ (H1 : Heap) (locs1 : List Loc), jLW s dC dI dA τ1 τ2 A1 A2 sz S1 S' H1 locs1 → W p l e room_1 s m #[Value.ref b] below meth c H1 locs1 cells slots Q (F0 m (pc + 3) ls (tv τ2 v :: rest))) : W p l e room_1 s m #[Value.ref b] below meth c H locs cells slots Q (F0 m pc ls ((as.map Value.int).reverse ++ .ref (τ2 0) :: rest)) := by
  obtain ⟨hx, hb, hr, hml, hown, hts, hX, hbl, hlk, hgv⟩ := C0
  obtain ⟨f1, f2, a1, a2, z1, z2, g1, g2⟩ := C2
  obtain ⟨hP1, hD1, hP2, hD2, hS, hz, s1, s2⟩ := F
  refine l_callV hx hb hml hown hts f2 a2 hP2 hD2 hS (fun q hq => z2 q (Nat.le_trans hz hq)) (by rw [s2, shR_len.1]; decide) (ci := 12) rfl hcl (by rw [s2]; exact shR_len.2) hk0 hkl hw hnp hd hlen hcall hroom hls h8 (fun H1 locs1 hP3 hD3 hS3 hsz hk => kk H1 locs1 ⟨?_, hD1, hP3, hD3, hS3, Nat.le_trans hz hsz, s1, hcall.2.2.trans s2⟩)
  refine jws_kept hP1 (fun i hi => ?_)
  rw [s1, shC_len.1] at hi
  exact hk _ (Nat.lt_of_lt_of_le (g2 i hi).2 hz) (g2 i hi).1
/-- where every arm goes on -/
def lGo (p : Program) (l : Launch) (e : Env) (s : State) (m : MethodId) (below : List Frame) (meth : Method) (c : Code) (b : Nat) (dC : Nat → ClassId) (dI : Nat → Nat → Nat) (dA : Nat → ClassId) (τ1 τ2 : Nat → Nat) (A1 A2 : Nat → Prop) (sz cells slots : Nat) (Q : State → Prop) (i : Nat) (S1 S2 : jS) : Prop := ∀ (H : Heap) (locs : List Loc) (ls : Array Slot), jLW s dC dI dA τ1 τ2 A1 A2 sz S1 S2 H locs → lv_has ls 4 [(0, .ref b), (1, .ref (τ1 0)), (2, .ref (τ2 0)), (3, .int (nI i))] → W p l e room_1 s m #[Value.ref b] below meth c H locs cells slots Q (F0 m 1140 ls [])
theorem l_in {i k L : Nat} (h : i + 6 ≤ L) (hk : k ≤ 5) (hL : L ≤ 384) : vp_in (nI i + nI k) L := by
  rw [nI_add]
  exact vp_in_nI (by omega) (by omega)
theorem l_s (C0 : lw_At p s m meth c b L xs) {i k pc : Nat} (h6 : i + 6 ≤ L) (hk : k ≤ 5) (hL : L ≤ 384) (F : jLW s dC dI dA τ1 τ2 A1 A2 sz S1 S2 H locs) {x : Int32} (hxk : x = nI k) {ls : Array Slot} (hd : decode code pc = .ok (.iaload, 1)) {rest : List Value} (kk : W p l e room_1 s m #[Value.ref b] below meth c H locs cells slots Q (F0 m (pc + 1) ls (.int (xs (i + k)) :: rest))) : W p l e room_1 s m #[Value.ref b] below meth c H locs cells slots Q (F0 m pc ls (.int (nI i + x) :: .ref b :: rest)) := by
  obtain ⟨hx, hb, hr, hml, hown, hts, hX, hbl, hlk, hgv⟩ := C0
  subst hxk
  refine va_sld (A := fun q : Nat => s.heap.size ≤ q) hx hb hX hbl (Nat.not_le.mpr hbl) F.2.2.2.2.1 (l_in h6 hk hL) hd ?_
  rw [nI_add, nI_clamp (by omega)]
  exact kk
theorem l_arm0 (C0 : lw_At p s m meth c b L xs) (C2 : jL2 s dC dI dA τ1 τ2 A1 A2 sz) (hL : L ≤ 384) {i n : Nat} (h6 : i + 6 ≤ L) (hroom : cells ≤ room_1.cells ∧ slots ≤ room_1.slots) (hsim : jSim (n + 1) S1 S2) (kk : ∀ S1' S2', jSim n S1' S2' → lGo p l e s m below meth c b dC dI dA τ1 τ2 A1 A2 sz cells slots Q i S1' S2') (F : jLW s dC dI dA τ1 τ2 A1 A2 sz S1 S2 H locs) {ls : Array Slot} (hl : lv_has ls 4 [(0, .ref b), (1, .ref (τ1 0)), (2, .ref (τ2 0)), (3, .int (nI i))]) : W p l e room_1 s m #[Value.ref b] below meth c H locs cells slots Q (F0 m 184 ls []) := by
  obtain ⟨v, S1', S2', hv, hc1, hc2, hs⟩ := hsim 0 _ rfl [xs (i + 1)] rfl
  obtain ⟨x, rfl⟩ := hv
  have hx := C0.1
  have hb := C0.2.1
  refine lv_aload_n hx hb dl_184 rfl (lv_at hl 1 rfl) ?_
  refine lv_aload_n hx hb dl_185 rfl (lv_at hl 0 rfl) ?_
  refine lv_iload_n hx hb dl_186 rfl (lv_at hl 3 rfl) ?_
  refine lv_iconst (v := 1) hx hb dl_187 (by decide) ?_
  refine lv_iadd hx hb dl_188 ?_
  refine l_s C0 (k := 1) h6 (by decide) hL F rfl dl_189 ?_
  refine l_x C0 C2 F (as := [xs (i + 1)]) (n := 1) (w := 918) (k' := 168) rfl rfl (by rw [j_len]; decide) (by decide +kernel) (by decide +kernel) dl_190 rfl hc1 hroom hl.1 (by decide) (fun H locs F => ?_)
  refine lv_aload_n hx hb dl_193 rfl (lv_at hl 2 rfl) ?_
  refine lv_aload_n hx hb dl_194 rfl (lv_at hl 0 rfl) ?_
  refine lv_iload_n hx hb dl_195 rfl (lv_at hl 3 rfl) ?_
  refine lv_iconst (v := 1) hx hb dl_196 (by decide) ?_
  refine lv_iadd hx hb dl_197 ?_
  refine l_s C0 (k := 1) h6 (by decide) hL F rfl dl_198 ?_
  refine l_m C0 C2 F (as := [xs (i + 1)]) (n := 1) (w := 2390) (k' := 220) rfl rfl (by rw [j_len]; decide) (by decide +kernel) (by decide +kernel) dl_199 rfl hc2 hroom hl.1 (by simp [tv, Value.category]) (fun H locs F => ?_)
  refine lv_icmp_eq (tgt := 1140) hx hb dl_202 (by decide) (fun _ => ?_) (fun q => absurd rfl q)
  exact kk S1' S2' hs H locs ls F hl
theorem l_arm1 (C0 : lw_At p s m meth c b L xs) (C2 : jL2 s dC dI dA τ1 τ2 A1 A2 sz) (hL : L ≤ 384) {i n : Nat} (h6 : i + 6 ≤ L) (hroom : cells ≤ room_1.cells ∧ slots ≤ room_1.slots) (hsim : jSim (n + 1) S1 S2) (kk : ∀ S1' S2', jSim n S1' S2' → lGo p l e s m below meth c b dC dI dA τ1 τ2 A1 A2 sz cells slots Q i S1' S2') (F : jLW s dC dI dA τ1 τ2 A1 A2 sz S1 S2 H locs) {ls : Array Slot} (hl : lv_has ls 4 [(0, .ref b), (1, .ref (τ1 0)), (2, .ref (τ2 0)), (3, .int (nI i))]) : W p l e room_1 s m #[Value.ref b] below meth c H locs cells slots Q (F0 m 207 ls []) := by
  obtain ⟨v, S1', S2', hv, hc1, hc2, hs⟩ := hsim 1 _ rfl [xs (i + 1), xs (i + 2), xs (i + 3), xs (i + 4), xs (i + 5)] rfl
  obtain ⟨x, rfl⟩ := hv
  have hx := C0.1
  have hb := C0.2.1
  refine lv_aload_n hx hb dl_207 rfl (lv_at hl 1 rfl) ?_
  refine lv_aload_n hx hb dl_208 rfl (lv_at hl 0 rfl) ?_
  refine lv_iload_n hx hb dl_209 rfl (lv_at hl 3 rfl) ?_
  refine lv_iconst (v := 1) hx hb dl_210 (by decide) ?_
  refine lv_iadd hx hb dl_211 ?_
  refine l_s C0 (k := 1) h6 (by decide) hL F rfl dl_212 ?_
  refine lv_aload_n hx hb dl_213 rfl (lv_at hl 0 rfl) ?_
  refine lv_iload_n hx hb dl_214 rfl (lv_at hl 3 rfl) ?_
  refine lv_iconst (v := 2) hx hb dl_215 (by decide) ?_
  refine lv_iadd hx hb dl_216 ?_
  refine l_s C0 (k := 2) h6 (by decide) hL F rfl dl_217 ?_
  refine lv_aload_n hx hb dl_218 rfl (lv_at hl 0 rfl) ?_
  refine lv_iload_n hx hb dl_219 rfl (lv_at hl 3 rfl) ?_
  refine lv_iconst (v := 3) hx hb dl_220 (by decide) ?_
  refine lv_iadd hx hb dl_221 ?_
  refine l_s C0 (k := 3) h6 (by decide) hL F rfl dl_222 ?_
  refine lv_aload_n hx hb dl_223 rfl (lv_at hl 0 rfl) ?_
  refine lv_iload_n hx hb dl_224 rfl (lv_at hl 3 rfl) ?_
  refine lv_iconst (v := 4) hx hb dl_225 (by decide) ?_
  refine lv_iadd hx hb dl_226 ?_
  refine l_s C0 (k := 4) h6 (by decide) hL F rfl dl_227 ?_
  refine lv_aload_n hx hb dl_228 rfl (lv_at hl 0 rfl) ?_
  refine lv_iload_n hx hb dl_229 rfl (lv_at hl 3 rfl) ?_
  refine lv_iconst (v := 5) hx hb dl_230 (by decide) ?_
  refine lv_iadd hx hb dl_231 ?_
  refine l_s C0 (k := 5) h6 (by decide) hL F rfl dl_232 ?_
  refine l_x C0 C2 F (as := [xs (i + 1), xs (i + 2), xs (i + 3), xs (i + 4), xs (i + 5)]) (n := 5) (w := 932) (k' := 169) rfl rfl (by rw [j_len]; decide) (by decide +kernel) (by decide +kernel) dl_233 rfl hc1 hroom hl.1 (by decide) (fun H locs F => ?_)
  refine lv_aload_n hx hb dl_236 rfl (lv_at hl 2 rfl) ?_
  refine lv_aload_n hx hb dl_237 rfl (lv_at hl 0 rfl) ?_
  refine lv_iload_n hx hb dl_238 rfl (lv_at hl 3 rfl) ?_
  refine lv_iconst (v := 1) hx hb dl_239 (by decide) ?_
  refine lv_iadd hx hb dl_240 ?_
  refine l_s C0 (k := 1) h6 (by decide) hL F rfl dl_241 ?_
  refine lv_aload_n hx hb dl_242 rfl (lv_at hl 0 rfl) ?_
  refine lv_iload_n hx hb dl_243 rfl (lv_at hl 3 rfl) ?_
  refine lv_iconst (v := 2) hx hb dl_244 (by decide) ?_
  refine lv_iadd hx hb dl_245 ?_
  refine l_s C0 (k := 2) h6 (by decide) hL F rfl dl_246 ?_
  refine lv_aload_n hx hb dl_247 rfl (lv_at hl 0 rfl) ?_
  refine lv_iload_n hx hb dl_248 rfl (lv_at hl 3 rfl) ?_
  refine lv_iconst (v := 3) hx hb dl_249 (by decide) ?_
  refine lv_iadd hx hb dl_250 ?_
  refine l_s C0 (k := 3) h6 (by decide) hL F rfl dl_251 ?_
  refine lv_aload_n hx hb dl_252 rfl (lv_at hl 0 rfl) ?_
  refine lv_iload_n hx hb dl_253 rfl (lv_at hl 3 rfl) ?_
  refine lv_iconst (v := 4) hx hb dl_254 (by decide) ?_
  refine lv_iadd hx hb dl_255 ?_
  refine l_s C0 (k := 4) h6 (by decide) hL F rfl dl_256 ?_
  refine lv_aload_n hx hb dl_257 rfl (lv_at hl 0 rfl) ?_
  refine lv_iload_n hx hb dl_258 rfl (lv_at hl 3 rfl) ?_
  refine lv_iconst (v := 5) hx hb dl_259 (by decide) ?_
  refine lv_iadd hx hb dl_260 ?_
  refine l_s C0 (k := 5) h6 (by decide) hL F rfl dl_261 ?_
  refine l_m C0 C2 F (as := [xs (i + 1), xs (i + 2), xs (i + 3), xs (i + 4), xs (i + 5)]) (n := 5) (w := 2401) (k' := 223) rfl rfl (by rw [j_len]; decide) (by decide +kernel) (by decide +kernel) dl_262 rfl hc2 hroom hl.1 (by simp [tv, Value.category]) (fun H locs F => ?_)
  refine lv_icmp_eq (tgt := 1140) hx hb dl_265 (by decide) (fun _ => ?_) (fun q => absurd rfl q)
  exact kk S1' S2' hs H locs ls F hl
theorem l_arm2 (C0 : lw_At p s m meth c b L xs) (C2 : jL2 s dC dI dA τ1 τ2 A1 A2 sz) (hL : L ≤ 384) {i n : Nat} (h6 : i + 6 ≤ L) (hroom : cells ≤ room_1.cells ∧ slots ≤ room_1.slots) (hsim : jSim (n + 1) S1 S2) (kk : ∀ S1' S2', jSim n S1' S2' → lGo p l e s m below meth c b dC dI dA τ1 τ2 A1 A2 sz cells slots Q i S1' S2') (F : jLW s dC dI dA τ1 τ2 A1 A2 sz S1 S2 H locs) {ls : Array Slot} (hl : lv_has ls 4 [(0, .ref b), (1, .ref (τ1 0)), (2, .ref (τ2 0)), (3, .int (nI i))]) : W p l e room_1 s m #[Value.ref b] below meth c H locs cells slots Q (F0 m 270 ls []) := by
  obtain ⟨v, S1', S2', hv, hc1, hc2, hs⟩ := hsim 2 _ rfl [xs (i + 1), xs (i + 2), xs (i + 3), xs (i + 4)] rfl
  obtain ⟨x, rfl⟩ := hv
  have hx := C0.1
  have hb := C0.2.1
  refine lv_aload_n hx hb dl_270 rfl (lv_at hl 1 rfl) ?_
  refine lv_aload_n hx hb dl_271 rfl (lv_at hl 0 rfl) ?_
  refine lv_iload_n hx hb dl_272 rfl (lv_at hl 3 rfl) ?_
  refine lv_iconst (v := 1) hx hb dl_273 (by decide) ?_
  refine lv_iadd hx hb dl_274 ?_
  refine l_s C0 (k := 1) h6 (by decide) hL F rfl dl_275 ?_
  refine lv_aload_n hx hb dl_276 rfl (lv_at hl 0 rfl) ?_
  refine lv_iload_n hx hb dl_277 rfl (lv_at hl 3 rfl) ?_
  refine lv_iconst (v := 2) hx hb dl_278 (by decide) ?_
  refine lv_iadd hx hb dl_279 ?_
  refine l_s C0 (k := 2) h6 (by decide) hL F rfl dl_280 ?_
  refine lv_aload_n hx hb dl_281 rfl (lv_at hl 0 rfl) ?_
  refine lv_iload_n hx hb dl_282 rfl (lv_at hl 3 rfl) ?_
  refine lv_iconst (v := 3) hx hb dl_283 (by decide) ?_
  refine lv_iadd hx hb dl_284 ?_
  refine l_s C0 (k := 3) h6 (by decide) hL F rfl dl_285 ?_
  refine lv_aload_n hx hb dl_286 rfl (lv_at hl 0 rfl) ?_
  refine lv_iload_n hx hb dl_287 rfl (lv_at hl 3 rfl) ?_
  refine lv_iconst (v := 4) hx hb dl_288 (by decide) ?_
  refine lv_iadd hx hb dl_289 ?_
  refine l_s C0 (k := 4) h6 (by decide) hL F rfl dl_290 ?_
  refine l_x C0 C2 F (as := [xs (i + 1), xs (i + 2), xs (i + 3), xs (i + 4)]) (n := 4) (w := 958) (k' := 170) rfl rfl (by rw [j_len]; decide) (by decide +kernel) (by decide +kernel) dl_291 rfl hc1 hroom hl.1 (by decide) (fun H locs F => ?_)
  refine lv_aload_n hx hb dl_294 rfl (lv_at hl 2 rfl) ?_
  refine lv_aload_n hx hb dl_295 rfl (lv_at hl 0 rfl) ?_
  refine lv_iload_n hx hb dl_296 rfl (lv_at hl 3 rfl) ?_
  refine lv_iconst (v := 1) hx hb dl_297 (by decide) ?_
  refine lv_iadd hx hb dl_298 ?_
  refine l_s C0 (k := 1) h6 (by decide) hL F rfl dl_299 ?_
  refine lv_aload_n hx hb dl_300 rfl (lv_at hl 0 rfl) ?_
  refine lv_iload_n hx hb dl_301 rfl (lv_at hl 3 rfl) ?_
  refine lv_iconst (v := 2) hx hb dl_302 (by decide) ?_
  refine lv_iadd hx hb dl_303 ?_
  refine l_s C0 (k := 2) h6 (by decide) hL F rfl dl_304 ?_
  refine lv_aload_n hx hb dl_305 rfl (lv_at hl 0 rfl) ?_
  refine lv_iload_n hx hb dl_306 rfl (lv_at hl 3 rfl) ?_
  refine lv_iconst (v := 3) hx hb dl_307 (by decide) ?_
  refine lv_iadd hx hb dl_308 ?_
  refine l_s C0 (k := 3) h6 (by decide) hL F rfl dl_309 ?_
  refine lv_aload_n hx hb dl_310 rfl (lv_at hl 0 rfl) ?_
  refine lv_iload_n hx hb dl_311 rfl (lv_at hl 3 rfl) ?_
  refine lv_iconst (v := 4) hx hb dl_312 (by decide) ?_
  refine lv_iadd hx hb dl_313 ?_
  refine l_s C0 (k := 4) h6 (by decide) hL F rfl dl_314 ?_
  refine l_m C0 C2 F (as := [xs (i + 1), xs (i + 2), xs (i + 3), xs (i + 4)]) (n := 4) (w := 2419) (k' := 224) rfl rfl (by rw [j_len]; decide) (by decide +kernel) (by decide +kernel) dl_315 rfl hc2 hroom hl.1 (by simp [tv, Value.category]) (fun H locs F => ?_)
  refine lv_icmp_eq (tgt := 1140) hx hb dl_318 (by decide) (fun _ => ?_) (fun q => absurd rfl q)
  exact kk S1' S2' hs H locs ls F hl
theorem l_arm3 (C0 : lw_At p s m meth c b L xs) (C2 : jL2 s dC dI dA τ1 τ2 A1 A2 sz) (hL : L ≤ 384) {i n : Nat} (h6 : i + 6 ≤ L) (hroom : cells ≤ room_1.cells ∧ slots ≤ room_1.slots) (hsim : jSim (n + 1) S1 S2) (kk : ∀ S1' S2', jSim n S1' S2' → lGo p l e s m below meth c b dC dI dA τ1 τ2 A1 A2 sz cells slots Q i S1' S2') (F : jLW s dC dI dA τ1 τ2 A1 A2 sz S1 S2 H locs) {ls : Array Slot} (hl : lv_has ls 4 [(0, .ref b), (1, .ref (τ1 0)), (2, .ref (τ2 0)), (3, .int (nI i))]) : W p l e room_1 s m #[Value.ref b] below meth c H locs cells slots Q (F0 m 323 ls []) := by
  obtain ⟨v, S1', S2', hv, hc1, hc2, hs⟩ := hsim 3 _ rfl [xs (i + 1), xs (i + 2), xs (i + 3), xs (i + 4), xs (i + 5)] rfl
  obtain ⟨x, rfl⟩ := hv
  have hx := C0.1
  have hb := C0.2.1
  refine lv_aload_n hx hb dl_323 rfl (lv_at hl 1 rfl) ?_
  refine lv_aload_n hx hb dl_324 rfl (lv_at hl 0 rfl) ?_
  refine lv_iload_n hx hb dl_325 rfl (lv_at hl 3 rfl) ?_
  refine lv_iconst (v := 1) hx hb dl_326 (by decide) ?_
  refine lv_iadd hx hb dl_327 ?_
  refine l_s C0 (k := 1) h6 (by decide) hL F rfl dl_328 ?_
  refine lv_aload_n hx hb dl_329 rfl (lv_at hl 0 rfl) ?_
  refine lv_iload_n hx hb dl_330 rfl (lv_at hl 3 rfl) ?_
  refine lv_iconst (v := 2) hx hb dl_331 (by decide) ?_
  refine lv_iadd hx hb dl_332 ?_
  refine l_s C0 (k := 2) h6 (by decide) hL F rfl dl_333 ?_
  refine lv_aload_n hx hb dl_334 rfl (lv_at hl 0 rfl) ?_
  refine lv_iload_n hx hb dl_335 rfl (lv_at hl 3 rfl) ?_
  refine lv_iconst (v := 3) hx hb dl_336 (by decide) ?_
  refine lv_iadd hx hb dl_337 ?_
  refine l_s C0 (k := 3) h6 (by decide) hL F rfl dl_338 ?_
  refine lv_aload_n hx hb dl_339 rfl (lv_at hl 0 rfl) ?_
  refine lv_iload_n hx hb dl_340 rfl (lv_at hl 3 rfl) ?_
  refine lv_iconst (v := 4) hx hb dl_341 (by decide) ?_
  refine lv_iadd hx hb dl_342 ?_
  refine l_s C0 (k := 4) h6 (by decide) hL F rfl dl_343 ?_
  refine lv_aload_n hx hb dl_344 rfl (lv_at hl 0 rfl) ?_
  refine lv_iload_n hx hb dl_345 rfl (lv_at hl 3 rfl) ?_
  refine lv_iconst (v := 5) hx hb dl_346 (by decide) ?_
  refine lv_iadd hx hb dl_347 ?_
  refine l_s C0 (k := 5) h6 (by decide) hL F rfl dl_348 ?_
  refine l_x C0 C2 F (as := [xs (i + 1), xs (i + 2), xs (i + 3), xs (i + 4), xs (i + 5)]) (n := 5) (w := 970) (k' := 171) rfl rfl (by rw [j_len]; decide) (by decide +kernel) (by decide +kernel) dl_349 rfl hc1 hroom hl.1 (by decide) (fun H locs F => ?_)
  refine lv_aload_n hx hb dl_352 rfl (lv_at hl 2 rfl) ?_
  refine lv_aload_n hx hb dl_353 rfl (lv_at hl 0 rfl) ?_
  refine lv_iload_n hx hb dl_354 rfl (lv_at hl 3 rfl) ?_
  refine lv_iconst (v := 1) hx hb dl_355 (by decide) ?_
  refine lv_iadd hx hb dl_356 ?_
  refine l_s C0 (k := 1) h6 (by decide) hL F rfl dl_357 ?_
  refine lv_aload_n hx hb dl_358 rfl (lv_at hl 0 rfl) ?_
  refine lv_iload_n hx hb dl_359 rfl (lv_at hl 3 rfl) ?_
  refine lv_iconst (v := 2) hx hb dl_360 (by decide) ?_
  refine lv_iadd hx hb dl_361 ?_
  refine l_s C0 (k := 2) h6 (by decide) hL F rfl dl_362 ?_
  refine lv_aload_n hx hb dl_363 rfl (lv_at hl 0 rfl) ?_
  refine lv_iload_n hx hb dl_364 rfl (lv_at hl 3 rfl) ?_
  refine lv_iconst (v := 3) hx hb dl_365 (by decide) ?_
  refine lv_iadd hx hb dl_366 ?_
  refine l_s C0 (k := 3) h6 (by decide) hL F rfl dl_367 ?_
  refine lv_aload_n hx hb dl_368 rfl (lv_at hl 0 rfl) ?_
  refine lv_iload_n hx hb dl_369 rfl (lv_at hl 3 rfl) ?_
  refine lv_iconst (v := 4) hx hb dl_370 (by decide) ?_
  refine lv_iadd hx hb dl_371 ?_
  refine l_s C0 (k := 4) h6 (by decide) hL F rfl dl_372 ?_
  refine lv_aload_n hx hb dl_373 rfl (lv_at hl 0 rfl) ?_
  refine lv_iload_n hx hb dl_374 rfl (lv_at hl 3 rfl) ?_
  refine lv_iconst (v := 5) hx hb dl_375 (by decide) ?_
  refine lv_iadd hx hb dl_376 ?_
  refine l_s C0 (k := 5) h6 (by decide) hL F rfl dl_377 ?_
  refine l_m C0 C2 F (as := [xs (i + 1), xs (i + 2), xs (i + 3), xs (i + 4), xs (i + 5)]) (n := 5) (w := 2423) (k' := 225) rfl rfl (by rw [j_len]; decide) (by decide +kernel) (by decide +kernel) dl_378 rfl hc2 hroom hl.1 (by simp [tv, Value.category]) (fun H locs F => ?_)
  refine lv_icmp_eq (tgt := 1140) hx hb dl_381 (by decide) (fun _ => ?_) (fun q => absurd rfl q)
  exact kk S1' S2' hs H locs ls F hl
theorem l_arm4 (C0 : lw_At p s m meth c b L xs) (C2 : jL2 s dC dI dA τ1 τ2 A1 A2 sz) (hL : L ≤ 384) {i n : Nat} (h6 : i + 6 ≤ L) (hroom : cells ≤ room_1.cells ∧ slots ≤ room_1.slots) (hsim : jSim (n + 1) S1 S2) (kk : ∀ S1' S2', jSim n S1' S2' → lGo p l e s m below meth c b dC dI dA τ1 τ2 A1 A2 sz cells slots Q i S1' S2') (F : jLW s dC dI dA τ1 τ2 A1 A2 sz S1 S2 H locs) {ls : Array Slot} (hl : lv_has ls 4 [(0, .ref b), (1, .ref (τ1 0)), (2, .ref (τ2 0)), (3, .int (nI i))]) : W p l e room_1 s m #[Value.ref b] below meth c H locs cells slots Q (F0 m 386 ls []) := by
  obtain ⟨v, S1', S2', hv, hc1, hc2, hs⟩ := hsim 4 _ rfl [xs (i + 1)] rfl
  obtain ⟨x, rfl⟩ := hv
  have hx := C0.1
  have hb := C0.2.1
  refine lv_aload_n hx hb dl_386 rfl (lv_at hl 1 rfl) ?_
  refine lv_aload_n hx hb dl_387 rfl (lv_at hl 0 rfl) ?_
  refine lv_iload_n hx hb dl_388 rfl (lv_at hl 3 rfl) ?_
  refine lv_iconst (v := 1) hx hb dl_389 (by decide) ?_
  refine lv_iadd hx hb dl_390 ?_
  refine l_s C0 (k := 1) h6 (by decide) hL F rfl dl_391 ?_
  refine l_x C0 C2 F (as := [xs (i + 1)]) (n := 1) (w := 978) (k' := 173) rfl rfl (by rw [j_len]; decide) (by decide +kernel) (by decide +kernel) dl_392 rfl hc1 hroom hl.1 (by decide) (fun H locs F => ?_)
  refine lv_aload_n hx hb dl_395 rfl (lv_at hl 2 rfl) ?_
  refine lv_aload_n hx hb dl_396 rfl (lv_at hl 0 rfl) ?_
  refine lv_iload_n hx hb dl_397 rfl (lv_at hl 3 rfl) ?_
  refine lv_iconst (v := 1) hx hb dl_398 (by decide) ?_
  refine lv_iadd hx hb dl_399 ?_
  refine l_s C0 (k := 1) h6 (by decide) hL F rfl dl_400 ?_
  refine l_m C0 C2 F (as := [xs (i + 1)]) (n := 1) (w := 2431) (k' := 227) rfl rfl (by rw [j_len]; decide) (by decide +kernel) (by decide +kernel) dl_401 rfl hc2 hroom hl.1 (by simp [tv, Value.category]) (fun H locs F => ?_)
  refine lv_icmp_eq (tgt := 1140) hx hb dl_404 (by decide) (fun _ => ?_) (fun q => absurd rfl q)
  exact kk S1' S2' hs H locs ls F hl
theorem l_arm5 (C0 : lw_At p s m meth c b L xs) (C2 : jL2 s dC dI dA τ1 τ2 A1 A2 sz) (hL : L ≤ 384) {i n : Nat} (h6 : i + 6 ≤ L) (hroom : cells ≤ room_1.cells ∧ slots ≤ room_1.slots) (hsim : jSim (n + 1) S1 S2) (kk : ∀ S1' S2', jSim n S1' S2' → lGo p l e s m below meth c b dC dI dA τ1 τ2 A1 A2 sz cells slots Q i S1' S2') (F : jLW s dC dI dA τ1 τ2 A1 A2 sz S1 S2 H locs) {ls : Array Slot} (hl : lv_has ls 4 [(0, .ref b), (1, .ref (τ1 0)), (2, .ref (τ2 0)), (3, .int (nI i))]) : W p l e room_1 s m #[Value.ref b] below meth c H locs cells slots Q (F0 m 409 ls []) := by
  obtain ⟨v, S1', S2', hv, hc1, hc2, hs⟩ := hsim 5 _ rfl [xs (i + 1)] rfl
  obtain ⟨x, rfl⟩ := hv
  have hx := C0.1
  have hb := C0.2.1
  refine lv_aload_n hx hb dl_409 rfl (lv_at hl 1 rfl) ?_
  refine lv_aload_n hx hb dl_410 rfl (lv_at hl 0 rfl) ?_
  refine lv_iload_n hx hb dl_411 rfl (lv_at hl 3 rfl) ?_
  refine lv_iconst (v := 1) hx hb dl_412 (by decide) ?_
  refine lv_iadd hx hb dl_413 ?_
  refine l_s C0 (k := 1) h6 (by decide) hL F rfl dl_414 ?_
  refine l_x C0 C2 F (as := [xs (i + 1)]) (n := 1) (w := 982) (k' := 174) rfl rfl (by rw [j_len]; decide) (by decide +kernel) (by decide +kernel) dl_415 rfl hc1 hroom hl.1 (by decide) (fun H locs F => ?_)
  refine lv_aload_n hx hb dl_418 rfl (lv_at hl 2 rfl) ?_
  refine lv_aload_n hx hb dl_419 rfl (lv_at hl 0 rfl) ?_
  refine lv_iload_n hx hb dl_420 rfl (lv_at hl 3 rfl) ?_
  refine lv_iconst (v := 1) hx hb dl_421 (by decide) ?_
  refine lv_iadd hx hb dl_422 ?_
  refine l_s C0 (k := 1) h6 (by decide) hL F rfl dl_423 ?_
  refine l_m C0 C2 F (as := [xs (i + 1)]) (n := 1) (w := 2435) (k' := 228) rfl rfl (by rw [j_len]; decide) (by decide +kernel) (by decide +kernel) dl_424 rfl hc2 hroom hl.1 (by simp [tv, Value.category]) (fun H locs F => ?_)
  refine lv_icmp_eq (tgt := 1140) hx hb dl_427 (by decide) (fun _ => ?_) (fun q => absurd rfl q)
  exact kk S1' S2' hs H locs ls F hl
theorem l_arm6 (C0 : lw_At p s m meth c b L xs) (C2 : jL2 s dC dI dA τ1 τ2 A1 A2 sz) (hL : L ≤ 384) {i n : Nat} (h6 : i + 6 ≤ L) (hroom : cells ≤ room_1.cells ∧ slots ≤ room_1.slots) (hsim : jSim (n + 1) S1 S2) (kk : ∀ S1' S2', jSim n S1' S2' → lGo p l e s m below meth c b dC dI dA τ1 τ2 A1 A2 sz cells slots Q i S1' S2') (F : jLW s dC dI dA τ1 τ2 A1 A2 sz S1 S2 H locs) {ls : Array Slot} (hl : lv_has ls 4 [(0, .ref b), (1, .ref (τ1 0)), (2, .ref (τ2 0)), (3, .int (nI i))]) : W p l e room_1 s m #[Value.ref b] below meth c H locs cells slots Q (F0 m 432 ls []) := by
  obtain ⟨v, S1', S2', hv, hc1, hc2, hs⟩ := hsim 6 _ rfl [xs (i + 1)] rfl
  obtain ⟨x, rfl⟩ := hv
  have hx := C0.1
  have hb := C0.2.1
  refine lv_aload_n hx hb dl_432 rfl (lv_at hl 1 rfl) ?_
  refine lv_aload_n hx hb dl_433 rfl (lv_at hl 0 rfl) ?_
  refine lv_iload_n hx hb dl_434 rfl (lv_at hl 3 rfl) ?_
  refine lv_iconst (v := 1) hx hb dl_435 (by decide) ?_
  refine lv_iadd hx hb dl_436 ?_
  refine l_s C0 (k := 1) h6 (by decide) hL F rfl dl_437 ?_
  refine l_x C0 C2 F (as := [xs (i + 1)]) (n := 1) (w := 990) (k' := 176) rfl rfl (by rw [j_len]; decide) (by decide +kernel) (by decide +kernel) dl_438 rfl hc1 hroom hl.1 (by decide) (fun H locs F => ?_)
  refine lv_aload_n hx hb dl_441 rfl (lv_at hl 2 rfl) ?_
  refine lv_aload_n hx hb dl_442 rfl (lv_at hl 0 rfl) ?_
  refine lv_iload_n hx hb dl_443 rfl (lv_at hl 3 rfl) ?_
  refine lv_iconst (v := 1) hx hb dl_444 (by decide) ?_
  refine lv_iadd hx hb dl_445 ?_
  refine l_s C0 (k := 1) h6 (by decide) hL F rfl dl_446 ?_
  refine l_m C0 C2 F (as := [xs (i + 1)]) (n := 1) (w := 2439) (k' := 229) rfl rfl (by rw [j_len]; decide) (by decide +kernel) (by decide +kernel) dl_447 rfl hc2 hroom hl.1 (by simp [tv, Value.category]) (fun H locs F => ?_)
  refine lv_icmp_eq (tgt := 1140) hx hb dl_450 (by decide) (fun _ => ?_) (fun q => absurd rfl q)
  exact kk S1' S2' hs H locs ls F hl
theorem l_arm7 (C0 : lw_At p s m meth c b L xs) (C2 : jL2 s dC dI dA τ1 τ2 A1 A2 sz) (hL : L ≤ 384) {i n : Nat} (h6 : i + 6 ≤ L) (hroom : cells ≤ room_1.cells ∧ slots ≤ room_1.slots) (hsim : jSim (n + 1) S1 S2) (kk : ∀ S1' S2', jSim n S1' S2' → lGo p l e s m below meth c b dC dI dA τ1 τ2 A1 A2 sz cells slots Q i S1' S2') (F : jLW s dC dI dA τ1 τ2 A1 A2 sz S1 S2 H locs) {ls : Array Slot} (hl : lv_has ls 4 [(0, .ref b), (1, .ref (τ1 0)), (2, .ref (τ2 0)), (3, .int (nI i))]) : W p l e room_1 s m #[Value.ref b] below meth c H locs cells slots Q (F0 m 455 ls []) := by
  obtain ⟨v, S1', S2', hv, hc1, hc2, hs⟩ := hsim 7 _ rfl [xs (i + 1)] rfl
  obtain ⟨x, rfl⟩ := hv
  have hx := C0.1
  have hb := C0.2.1
  refine lv_aload_n hx hb dl_455 rfl (lv_at hl 1 rfl) ?_
  refine lv_aload_n hx hb dl_456 rfl (lv_at hl 0 rfl) ?_
  refine lv_iload_n hx hb dl_457 rfl (lv_at hl 3 rfl) ?_
  refine lv_iconst (v := 1) hx hb dl_458 (by decide) ?_
  refine lv_iadd hx hb dl_459 ?_
  refine l_s C0 (k := 1) h6 (by decide) hL F rfl dl_460 ?_
  refine l_x C0 C2 F (as := [xs (i + 1)]) (n := 1) (w := 1313) (k' := 177) rfl rfl (by rw [j_len]; decide) (by decide +kernel) (by decide +kernel) dl_461 rfl hc1 hroom hl.1 (by decide) (fun H locs F => ?_)
  refine lv_aload_n hx hb dl_464 rfl (lv_at hl 2 rfl) ?_
  refine lv_aload_n hx hb dl_465 rfl (lv_at hl 0 rfl) ?_
  refine lv_iload_n hx hb dl_466 rfl (lv_at hl 3 rfl) ?_
  refine lv_iconst (v := 1) hx hb dl_467 (by decide) ?_
  refine lv_iadd hx hb dl_468 ?_
  refine l_s C0 (k := 1) h6 (by decide) hL F rfl dl_469 ?_
  refine l_m C0 C2 F (as := [xs (i + 1)]) (n := 1) (w := 2483) (k' := 233) rfl rfl (by rw [j_len]; decide) (by decide +kernel) (by decide +kernel) dl_470 rfl hc2 hroom hl.1 (by simp [tv, Value.category]) (fun H locs F => ?_)
  refine lv_icmp_eq (tgt := 1140) hx hb dl_473 (by decide) (fun _ => ?_) (fun q => absurd rfl q)
  exact kk S1' S2' hs H locs ls F hl
theorem l_arm8 (C0 : lw_At p s m meth c b L xs) (C2 : jL2 s dC dI dA τ1 τ2 A1 A2 sz) (hL : L ≤ 384) {i n : Nat} (h6 : i + 6 ≤ L) (hroom : cells ≤ room_1.cells ∧ slots ≤ room_1.slots) (hsim : jSim (n + 1) S1 S2) (kk : ∀ S1' S2', jSim n S1' S2' → lGo p l e s m below meth c b dC dI dA τ1 τ2 A1 A2 sz cells slots Q i S1' S2') (F : jLW s dC dI dA τ1 τ2 A1 A2 sz S1 S2 H locs) {ls : Array Slot} (hl : lv_has ls 4 [(0, .ref b), (1, .ref (τ1 0)), (2, .ref (τ2 0)), (3, .int (nI i))]) : W p l e room_1 s m #[Value.ref b] below meth c H locs cells slots Q (F0 m 478 ls []) := by
  obtain ⟨v, S1', S2', hv, hc1, hc2, hs⟩ := hsim 8 _ rfl [xs (i + 1)] rfl
  obtain ⟨x, rfl⟩ := hv
  have hx := C0.1
  have hb := C0.2.1
  refine lv_aload_n hx hb dl_478 rfl (lv_at hl 1 rfl) ?_
  refine lv_aload_n hx hb dl_479 rfl (lv_at hl 0 rfl) ?_
  refine lv_iload_n hx hb dl_480 rfl (lv_at hl 3 rfl) ?_
  refine lv_iconst (v := 1) hx hb dl_481 (by decide) ?_
  refine lv_iadd hx hb dl_482 ?_
  refine l_s C0 (k := 1) h6 (by decide) hL F rfl dl_483 ?_
  refine l_x C0 C2 F (as := [xs (i + 1)]) (n := 1) (w := 1321) (k' := 178) rfl rfl (by rw [j_len]; decide) (by decide +kernel) (by decide +kernel) dl_484 rfl hc1 hroom hl.1 (by decide) (fun H locs F => ?_)
  refine lv_aload_n hx hb dl_487 rfl (lv_at hl 2 rfl) ?_
  refine lv_aload_n hx hb dl_488 rfl (lv_at hl 0 rfl) ?_
  refine lv_iload_n hx hb dl_489 rfl (lv_at hl 3 rfl) ?_
  refine lv_iconst (v := 1) hx hb dl_490 (by decide) ?_
  refine lv_iadd hx hb dl_491 ?_
  refine l_s C0 (k := 1) h6 (by decide) hL F rfl dl_492 ?_
  refine l_m C0 C2 F (as := [xs (i + 1)]) (n := 1) (w := 2487) (k' := 234) rfl rfl (by rw [j_len]; decide) (by decide +kernel) (by decide +kernel) dl_493 rfl hc2 hroom hl.1 (by simp [tv, Value.category]) (fun H locs F => ?_)
  refine lv_icmp_eq (tgt := 1140) hx hb dl_496 (by decide) (fun _ => ?_) (fun q => absurd rfl q)
  exact kk S1' S2' hs H locs ls F hl
theorem l_arm9 (C0 : lw_At p s m meth c b L xs) (C2 : jL2 s dC dI dA τ1 τ2 A1 A2 sz) (hL : L ≤ 384) {i n : Nat} (h6 : i + 6 ≤ L) (hroom : cells ≤ room_1.cells ∧ slots ≤ room_1.slots) (hsim : jSim (n + 1) S1 S2) (kk : ∀ S1' S2', jSim n S1' S2' → lGo p l e s m below meth c b dC dI dA τ1 τ2 A1 A2 sz cells slots Q i S1' S2') (F : jLW s dC dI dA τ1 τ2 A1 A2 sz S1 S2 H locs) {ls : Array Slot} (hl : lv_has ls 4 [(0, .ref b), (1, .ref (τ1 0)), (2, .ref (τ2 0)), (3, .int (nI i))]) : W p l e room_1 s m #[Value.ref b] below meth c H locs cells slots Q (F0 m 501 ls []) := by
  obtain ⟨v, S1', S2', hv, hc1, hc2, hs⟩ := hsim 9 _ rfl [xs (i + 1), xs (i + 2), xs (i + 3)] rfl
  obtain ⟨x, rfl⟩ := hv
  have hx := C0.1
  have hb := C0.2.1
  refine lv_aload_n hx hb dl_501 rfl (lv_at hl 1 rfl) ?_
  refine lv_aload_n hx hb dl_502 rfl (lv_at hl 0 rfl) ?_
  refine lv_iload_n hx hb dl_503 rfl (lv_at hl 3 rfl) ?_
  refine lv_iconst (v := 1) hx hb dl_504 (by decide) ?_
  refine lv_iadd hx hb dl_505 ?_
  refine l_s C0 (k := 1) h6 (by decide) hL F rfl dl_506 ?_
  refine lv_aload_n hx hb dl_507 rfl (lv_at hl 0 rfl) ?_
  refine lv_iload_n hx hb dl_508 rfl (lv_at hl 3 rfl) ?_
  refine lv_iconst (v := 2) hx hb dl_509 (by decide) ?_
  refine lv_iadd hx hb dl_510 ?_
  refine l_s C0 (k := 2) h6 (by decide) hL F rfl dl_511 ?_
  refine lv_aload_n hx hb dl_512 rfl (lv_at hl 0 rfl) ?_
  refine lv_iload_n hx hb dl_513 rfl (lv_at hl 3 rfl) ?_
  refine lv_iconst (v := 3) hx hb dl_514 (by decide) ?_
  refine lv_iadd hx hb dl_515 ?_
  refine l_s C0 (k := 3) h6 (by decide) hL F rfl dl_516 ?_
  refine l_x C0 C2 F (as := [xs (i + 1), xs (i + 2), xs (i + 3)]) (n := 3) (w := 1335) (k' := 179) rfl rfl (by rw [j_len]; decide) (by decide +kernel) (by decide +kernel) dl_517 rfl hc1 hroom hl.1 (by decide) (fun H locs F => ?_)
  refine lv_aload_n hx hb dl_520 rfl (lv_at hl 2 rfl) ?_
  refine lv_aload_n hx hb dl_521 rfl (lv_at hl 0 rfl) ?_
  refine lv_iload_n hx hb dl_522 rfl (lv_at hl 3 rfl) ?_
  refine lv_iconst (v := 1) hx hb dl_523 (by decide) ?_
  refine lv_iadd hx hb dl_524 ?_
  refine l_s C0 (k := 1) h6 (by decide) hL F rfl dl_525 ?_
  refine lv_aload_n hx hb dl_526 rfl (lv_at hl 0 rfl) ?_
  refine lv_iload_n hx hb dl_527 rfl (lv_at hl 3 rfl) ?_
  refine lv_iconst (v := 2) hx hb dl_528 (by decide) ?_
  refine lv_iadd hx hb dl_529 ?_
  refine l_s C0 (k := 2) h6 (by decide) hL F rfl dl_530 ?_
  refine lv_aload_n hx hb dl_531 rfl (lv_at hl 0 rfl) ?_
  refine lv_iload_n hx hb dl_532 rfl (lv_at hl 3 rfl) ?_
  refine lv_iconst (v := 3) hx hb dl_533 (by decide) ?_
  refine lv_iadd hx hb dl_534 ?_
  refine l_s C0 (k := 3) h6 (by decide) hL F rfl dl_535 ?_
  refine l_m C0 C2 F (as := [xs (i + 1), xs (i + 2), xs (i + 3)]) (n := 3) (w := 2499) (k' := 236) rfl rfl (by rw [j_len]; decide) (by decide +kernel) (by decide +kernel) dl_536 rfl hc2 hroom hl.1 (by simp [tv, Value.category]) (fun H locs F => ?_)
  refine lv_icmp_eq (tgt := 1140) hx hb dl_539 (by decide) (fun _ => ?_) (fun q => absurd rfl q)
  exact kk S1' S2' hs H locs ls F hl
theorem l_arm10 (C0 : lw_At p s m meth c b L xs) (C2 : jL2 s dC dI dA τ1 τ2 A1 A2 sz) (hL : L ≤ 384) {i n : Nat} (h6 : i + 6 ≤ L) (hroom : cells ≤ room_1.cells ∧ slots ≤ room_1.slots) (hsim : jSim (n + 1) S1 S2) (kk : ∀ S1' S2', jSim n S1' S2' → lGo p l e s m below meth c b dC dI dA τ1 τ2 A1 A2 sz cells slots Q i S1' S2') (F : jLW s dC dI dA τ1 τ2 A1 A2 sz S1 S2 H locs) {ls : Array Slot} (hl : lv_has ls 4 [(0, .ref b), (1, .ref (τ1 0)), (2, .ref (τ2 0)), (3, .int (nI i))]) : W p l e room_1 s m #[Value.ref b] below meth c H locs cells slots Q (F0 m 544 ls []) := by
  obtain ⟨v, S1', S2', hv, hc1, hc2, hs⟩ := hsim 10 _ rfl [xs (i + 1)] rfl
  obtain ⟨x, rfl⟩ := hv
  have hx := C0.1
  have hb := C0.2.1
  refine lv_aload_n hx hb dl_544 rfl (lv_at hl 1 rfl) ?_
  refine lv_aload_n hx hb dl_545 rfl (lv_at hl 0 rfl) ?_
  refine lv_iload_n hx hb dl_546 rfl (lv_at hl 3 rfl) ?_
  refine lv_iconst (v := 1) hx hb dl_547 (by decide) ?_
  refine lv_iadd hx hb dl_548 ?_
  refine l_s C0 (k := 1) h6 (by decide) hL F rfl dl_549 ?_
  refine l_x C0 C2 F (as := [xs (i + 1)]) (n := 1) (w := 1340) (k' := 180) rfl rfl (by rw [j_len]; decide) (by decide +kernel) (by decide +kernel) dl_550 rfl hc1 hroom hl.1 (by decide) (fun H locs F => ?_)
  refine lv_aload_n hx hb dl_553 rfl (lv_at hl 2 rfl) ?_
  refine lv_aload_n hx hb dl_554 rfl (lv_at hl 0 rfl) ?_
  refine lv_iload_n hx hb dl_555 rfl (lv_at hl 3 rfl) ?_
  refine lv_iconst (v := 1) hx hb dl_556 (by decide) ?_
  refine lv_iadd hx hb dl_557 ?_
  refine l_s C0 (k := 1) h6 (by decide) hL F rfl dl_558 ?_
  refine l_m C0 C2 F (as := [xs (i + 1)]) (n := 1) (w := 2503) (k' := 237) rfl rfl (by rw [j_len]; decide) (by decide +kernel) (by decide +kernel) dl_559 rfl hc2 hroom hl.1 (by simp [tv, Value.category]) (fun H locs F => ?_)
  refine lv_icmp_eq (tgt := 1140) hx hb dl_562 (by decide) (fun _ => ?_) (fun q => absurd rfl q)
  exact kk S1' S2' hs H locs ls F hl
theorem l_arm11 (C0 : lw_At p s m meth c b L xs) (C2 : jL2 s dC dI dA τ1 τ2 A1 A2 sz) (hL : L ≤ 384) {i n : Nat} (h6 : i + 6 ≤ L) (hroom : cells ≤ room_1.cells ∧ slots ≤ room_1.slots) (hsim : jSim (n + 1) S1 S2) (kk : ∀ S1' S2', jSim n S1' S2' → lGo p l e s m below meth c b dC dI dA τ1 τ2 A1 A2 sz cells slots Q i S1' S2') (F : jLW s dC dI dA τ1 τ2 A1 A2 sz S1 S2 H locs) {ls : Array Slot} (hl : lv_has ls 4 [(0, .ref b), (1, .ref (τ1 0)), (2, .ref (τ2 0)), (3, .int (nI i))]) : W p l e room_1 s m #[Value.ref b] below meth c H locs cells slots Q (F0 m 567 ls []) := by
  obtain ⟨v, S1', S2', hv, hc1, hc2, hs⟩ := hsim 11 _ rfl [xs (i + 1)] rfl
  obtain ⟨x, rfl⟩ := hv
  have hx := C0.1
  have hb := C0.2.1
  refine lv_aload_n hx hb dl_567 rfl (lv_at hl 1 rfl) ?_
  refine lv_aload_n hx hb dl_568 rfl (lv_at hl 0 rfl) ?_
  refine lv_iload_n hx hb dl_569 rfl (lv_at hl 3 rfl) ?_
  refine lv_iconst (v := 1) hx hb dl_570 (by decide) ?_
  refine lv_iadd hx hb dl_571 ?_
  refine l_s C0 (k := 1) h6 (by decide) hL F rfl dl_572 ?_
  refine l_x C0 C2 F (as := [xs (i + 1)]) (n := 1) (w := 1345) (k' := 181) rfl rfl (by rw [j_len]; decide) (by decide +kernel) (by decide +kernel) dl_573 rfl hc1 hroom hl.1 (by decide) (fun H locs F => ?_)
  refine lv_aload_n hx hb dl_576 rfl (lv_at hl 2 rfl) ?_
  refine lv_aload_n hx hb dl_577 rfl (lv_at hl 0 rfl) ?_
  refine lv_iload_n hx hb dl_578 rfl (lv_at hl 3 rfl) ?_
  refine lv_iconst (v := 1) hx hb dl_579 (by decide) ?_
  refine lv_iadd hx hb dl_580 ?_
  refine l_s C0 (k := 1) h6 (by decide) hL F rfl dl_581 ?_
  refine l_m C0 C2 F (as := [xs (i + 1)]) (n := 1) (w := 2507) (k' := 238) rfl rfl (by rw [j_len]; decide) (by decide +kernel) (by decide +kernel) dl_582 rfl hc2 hroom hl.1 (by simp [tv, Value.category]) (fun H locs F => ?_)
  refine lv_icmp_eq (tgt := 1140) hx hb dl_585 (by decide) (fun _ => ?_) (fun q => absurd rfl q)
  exact kk S1' S2' hs H locs ls F hl
theorem l_arm12 (C0 : lw_At p s m meth c b L xs) (C2 : jL2 s dC dI dA τ1 τ2 A1 A2 sz) (hL : L ≤ 384) {i n : Nat} (h6 : i + 6 ≤ L) (hroom : cells ≤ room_1.cells ∧ slots ≤ room_1.slots) (hsim : jSim (n + 1) S1 S2) (kk : ∀ S1' S2', jSim n S1' S2' → lGo p l e s m below meth c b dC dI dA τ1 τ2 A1 A2 sz cells slots Q i S1' S2') (F : jLW s dC dI dA τ1 τ2 A1 A2 sz S1 S2 H locs) {ls : Array Slot} (hl : lv_has ls 4 [(0, .ref b), (1, .ref (τ1 0)), (2, .ref (τ2 0)), (3, .int (nI i))]) : W p l e room_1 s m #[Value.ref b] below meth c H locs cells slots Q (F0 m 590 ls []) := by
  obtain ⟨v, S1', S2', hv, hc1, hc2, hs⟩ := hsim 12 _ rfl [] rfl
  obtain ⟨x, rfl⟩ := hv
  have hx := C0.1
  have hb := C0.2.1
  refine lv_aload_n hx hb dl_590 rfl (lv_at hl 1 rfl) ?_
  refine l_x C0 C2 F (as := []) (n := 0) (w := 1349) (k' := 182) rfl rfl (by rw [j_len]; decide) (by decide +kernel) (by decide +kernel) dl_591 rfl hc1 hroom hl.1 (by decide) (fun H locs F => ?_)
  refine lv_aload_n hx hb dl_594 rfl (lv_at hl 2 rfl) ?_
  refine l_m C0 C2 F (as := []) (n := 0) (w := 2511) (k' := 239) rfl rfl (by rw [j_len]; decide) (by decide +kernel) (by decide +kernel) dl_595 rfl hc2 hroom hl.1 (by simp [tv, Value.category]) (fun H locs F => ?_)
  refine lv_icmp_eq (tgt := 1140) hx hb dl_598 (by decide) (fun _ => ?_) (fun q => absurd rfl q)
  exact kk S1' S2' hs H locs ls F hl
theorem l_arm13 (C0 : lw_At p s m meth c b L xs) (C2 : jL2 s dC dI dA τ1 τ2 A1 A2 sz) (hL : L ≤ 384) {i n : Nat} (h6 : i + 6 ≤ L) (hroom : cells ≤ room_1.cells ∧ slots ≤ room_1.slots) (hsim : jSim (n + 1) S1 S2) (kk : ∀ S1' S2', jSim n S1' S2' → lGo p l e s m below meth c b dC dI dA τ1 τ2 A1 A2 sz cells slots Q i S1' S2') (F : jLW s dC dI dA τ1 τ2 A1 A2 sz S1 S2 H locs) {ls : Array Slot} (hl : lv_has ls 4 [(0, .ref b), (1, .ref (τ1 0)), (2, .ref (τ2 0)), (3, .int (nI i))]) : W p l e room_1 s m #[Value.ref b] below meth c H locs cells slots Q (F0 m 603 ls []) := by
  obtain ⟨v, S1', S2', hv, hc1, hc2, hs⟩ := hsim 13 _ rfl [xs (i + 1)] rfl
  obtain ⟨x, rfl⟩ := hv
  have hx := C0.1
  have hb := C0.2.1
  refine lv_aload_n hx hb dl_603 rfl (lv_at hl 1 rfl) ?_
  refine lv_aload_n hx hb dl_604 rfl (lv_at hl 0 rfl) ?_
  refine lv_iload_n hx hb dl_605 rfl (lv_at hl 3 rfl) ?_
  refine lv_iconst (v := 1) hx hb dl_606 (by decide) ?_
  refine lv_iadd hx hb dl_607 ?_
  refine l_s C0 (k := 1) h6 (by decide) hL F rfl dl_608 ?_
  refine l_x C0 C2 F (as := [xs (i + 1)]) (n := 1) (w := 1355) (k' := 183) rfl rfl (by rw [j_len]; decide) (by decide +kernel) (by decide +kernel) dl_609 rfl hc1 hroom hl.1 (by decide) (fun H locs F => ?_)
  refine lv_aload_n hx hb dl_612 rfl (lv_at hl 2 rfl) ?_
  refine lv_aload_n hx hb dl_613 rfl (lv_at hl 0 rfl) ?_
  refine lv_iload_n hx hb dl_614 rfl (lv_at hl 3 rfl) ?_
  refine lv_iconst (v := 1) hx hb dl_615 (by decide) ?_
  refine lv_iadd hx hb dl_616 ?_
  refine l_s C0 (k := 1) h6 (by decide) hL F rfl dl_617 ?_
  refine l_m C0 C2 F (as := [xs (i + 1)]) (n := 1) (w := 2519) (k' := 241) rfl rfl (by rw [j_len]; decide) (by decide +kernel) (by decide +kernel) dl_618 rfl hc2 hroom hl.1 (by simp [tv, Value.category]) (fun H locs F => ?_)
  refine lv_icmp_eq (tgt := 1140) hx hb dl_621 (by decide) (fun _ => ?_) (fun q => absurd rfl q)
  exact kk S1' S2' hs H locs ls F hl
theorem l_arm14 (C0 : lw_At p s m meth c b L xs) (C2 : jL2 s dC dI dA τ1 τ2 A1 A2 sz) (hL : L ≤ 384) {i n : Nat} (h6 : i + 6 ≤ L) (hroom : cells ≤ room_1.cells ∧ slots ≤ room_1.slots) (hsim : jSim (n + 1) S1 S2) (kk : ∀ S1' S2', jSim n S1' S2' → lGo p l e s m below meth c b dC dI dA τ1 τ2 A1 A2 sz cells slots Q i S1' S2') (F : jLW s dC dI dA τ1 τ2 A1 A2 sz S1 S2 H locs) {ls : Array Slot} (hl : lv_has ls 4 [(0, .ref b), (1, .ref (τ1 0)), (2, .ref (τ2 0)), (3, .int (nI i))]) : W p l e room_1 s m #[Value.ref b] below meth c H locs cells slots Q (F0 m 626 ls []) := by
  obtain ⟨v, S1', S2', hv, hc1, hc2, hs⟩ := hsim 14 _ rfl [xs (i + 1)] rfl
  obtain ⟨x, rfl⟩ := hv
  have hx := C0.1
  have hb := C0.2.1
  refine lv_aload_n hx hb dl_626 rfl (lv_at hl 1 rfl) ?_
  refine lv_aload_n hx hb dl_627 rfl (lv_at hl 0 rfl) ?_
  refine lv_iload_n hx hb dl_628 rfl (lv_at hl 3 rfl) ?_
  refine lv_iconst (v := 1) hx hb dl_629 (by decide) ?_
  refine lv_iadd hx hb dl_630 ?_
  refine l_s C0 (k := 1) h6 (by decide) hL F rfl dl_631 ?_
  refine l_x C0 C2 F (as := [xs (i + 1)]) (n := 1) (w := 1363) (k' := 193) rfl rfl (by rw [j_len]; decide) (by decide +kernel) (by decide +kernel) dl_632 rfl hc1 hroom hl.1 (by decide) (fun H locs F => ?_)
  refine lv_aload_n hx hb dl_635 rfl (lv_at hl 2 rfl) ?_
  refine lv_aload_n hx hb dl_636 rfl (lv_at hl 0 rfl) ?_
  refine lv_iload_n hx hb dl_637 rfl (lv_at hl 3 rfl) ?_
  refine lv_iconst (v := 1) hx hb dl_638 (by decide) ?_
  refine lv_iadd hx hb dl_639 ?_
  refine l_s C0 (k := 1) h6 (by decide) hL F rfl dl_640 ?_
  refine l_m C0 C2 F (as := [xs (i + 1)]) (n := 1) (w := 2681) (k' := 319) rfl rfl (by rw [j_len]; decide) (by decide +kernel) (by decide +kernel) dl_641 rfl hc2 hroom hl.1 (by simp [tv, Value.category]) (fun H locs F => ?_)
  refine lv_icmp_eq (tgt := 1140) hx hb dl_644 (by decide) (fun _ => ?_) (fun q => absurd rfl q)
  exact kk S1' S2' hs H locs ls F hl
theorem l_arm15 (C0 : lw_At p s m meth c b L xs) (C2 : jL2 s dC dI dA τ1 τ2 A1 A2 sz) (hL : L ≤ 384) {i n : Nat} (h6 : i + 6 ≤ L) (hroom : cells ≤ room_1.cells ∧ slots ≤ room_1.slots) (hsim : jSim (n + 1) S1 S2) (kk : ∀ S1' S2', jSim n S1' S2' → lGo p l e s m below meth c b dC dI dA τ1 τ2 A1 A2 sz cells slots Q i S1' S2') (F : jLW s dC dI dA τ1 τ2 A1 A2 sz S1 S2 H locs) {ls : Array Slot} (hl : lv_has ls 4 [(0, .ref b), (1, .ref (τ1 0)), (2, .ref (τ2 0)), (3, .int (nI i))]) : W p l e room_1 s m #[Value.ref b] below meth c H locs cells slots Q (F0 m 649 ls []) := by
  obtain ⟨v, S1', S2', hv, hc1, hc2, hs⟩ := hsim 15 _ rfl [xs (i + 1)] rfl
  obtain ⟨x, rfl⟩ := hv
  have hx := C0.1
  have hb := C0.2.1
  refine lv_aload_n hx hb dl_649 rfl (lv_at hl 1 rfl) ?_
  refine lv_aload_n hx hb dl_650 rfl (lv_at hl 0 rfl) ?_
  refine lv_iload_n hx hb dl_651 rfl (lv_at hl 3 rfl) ?_
  refine lv_iconst (v := 1) hx hb dl_652 (by decide) ?_
  refine lv_iadd hx hb dl_653 ?_
  refine l_s C0 (k := 1) h6 (by decide) hL F rfl dl_654 ?_
  refine l_x C0 C2 F (as := [xs (i + 1)]) (n := 1) (w := 1453) (k' := 194) rfl rfl (by rw [j_len]; decide) (by decide +kernel) (by decide +kernel) dl_655 rfl hc1 hroom hl.1 (by decide) (fun H locs F => ?_)
  refine lv_aload_n hx hb dl_658 rfl (lv_at hl 2 rfl) ?_
  refine lv_aload_n hx hb dl_659 rfl (lv_at hl 0 rfl) ?_
  refine lv_iload_n hx hb dl_660 rfl (lv_at hl 3 rfl) ?_
  refine lv_iconst (v := 1) hx hb dl_661 (by decide) ?_
  refine lv_iadd hx hb dl_662 ?_
  refine l_s C0 (k := 1) h6 (by decide) hL F rfl dl_663 ?_
  refine l_m C0 C2 F (as := [xs (i + 1)]) (n := 1) (w := 2722) (k' := 324) rfl rfl (by rw [j_len]; decide) (by decide +kernel) (by decide +kernel) dl_664 rfl hc2 hroom hl.1 (by simp [tv, Value.category]) (fun H locs F => ?_)
  refine W.lcmp hx hb dl_667 ?_
  refine lv_if_eq (tgt := 1140) hx hb dl_668 (by decide) (fun _ => ?_) (fun q => absurd (show lg_cmp x x = 0 by simp [lg_cmp]) q)
  exact kk S1' S2' hs H locs ls F hl
theorem l_arm16 (C0 : lw_At p s m meth c b L xs) (C2 : jL2 s dC dI dA τ1 τ2 A1 A2 sz) (hL : L ≤ 384) {i n : Nat} (h6 : i + 6 ≤ L) (hroom : cells ≤ room_1.cells ∧ slots ≤ room_1.slots) (hsim : jSim (n + 1) S1 S2) (kk : ∀ S1' S2', jSim n S1' S2' → lGo p l e s m below meth c b dC dI dA τ1 τ2 A1 A2 sz cells slots Q i S1' S2') (F : jLW s dC dI dA τ1 τ2 A1 A2 sz S1 S2 H locs) {ls : Array Slot} (hl : lv_has ls 4 [(0, .ref b), (1, .ref (τ1 0)), (2, .ref (τ2 0)), (3, .int (nI i))]) : W p l e room_1 s m #[Value.ref b] below meth c H locs cells slots Q (F0 m 673 ls []) := by
  obtain ⟨v, S1', S2', hv, hc1, hc2, hs⟩ := hsim 16 _ rfl [xs (i + 1), xs (i + 2)] rfl
  obtain ⟨x, rfl⟩ := hv
  have hx := C0.1
  have hb := C0.2.1
  refine lv_aload_n hx hb dl_673 rfl (lv_at hl 1 rfl) ?_
  refine lv_aload_n hx hb dl_674 rfl (lv_at hl 0 rfl) ?_
  refine lv_iload_n hx hb dl_675 rfl (lv_at hl 3 rfl) ?_
  refine lv_iconst (v := 1) hx hb dl_676 (by decide) ?_
  refine lv_iadd hx hb dl_677 ?_
  refine l_s C0 (k := 1) h6 (by decide) hL F rfl dl_678 ?_
  refine lv_aload_n hx hb dl_679 rfl (lv_at hl 0 rfl) ?_
  refine lv_iload_n hx hb dl_680 rfl (lv_at hl 3 rfl) ?_
  refine lv_iconst (v := 2) hx hb dl_681 (by decide) ?_
  refine lv_iadd hx hb dl_682 ?_
  refine l_s C0 (k := 2) h6 (by decide) hL F rfl dl_683 ?_
  refine l_x C0 C2 F (as := [xs (i + 1), xs (i + 2)]) (n := 2) (w := 1464) (k' := 195) rfl rfl (by rw [j_len]; decide) (by decide +kernel) (by decide +kernel) dl_684 rfl hc1 hroom hl.1 (by decide) (fun H locs F => ?_)
  refine lv_aload_n hx hb dl_687 rfl (lv_at hl 2 rfl) ?_
  refine lv_aload_n hx hb dl_688 rfl (lv_at hl 0 rfl) ?_
  refine lv_iload_n hx hb dl_689 rfl (lv_at hl 3 rfl) ?_
  refine lv_iconst (v := 1) hx hb dl_690 (by decide) ?_
  refine lv_iadd hx hb dl_691 ?_
  refine l_s C0 (k := 1) h6 (by decide) hL F rfl dl_692 ?_
  refine lv_aload_n hx hb dl_693 rfl (lv_at hl 0 rfl) ?_
  refine lv_iload_n hx hb dl_694 rfl (lv_at hl 3 rfl) ?_
  refine lv_iconst (v := 2) hx hb dl_695 (by decide) ?_
  refine lv_iadd hx hb dl_696 ?_
  refine l_s C0 (k := 2) h6 (by decide) hL F rfl dl_697 ?_
  refine l_m C0 C2 F (as := [xs (i + 1), xs (i + 2)]) (n := 2) (w := 2729) (k' := 325) rfl rfl (by rw [j_len]; decide) (by decide +kernel) (by decide +kernel) dl_698 rfl hc2 hroom hl.1 (by simp [tv, Value.category]) (fun H locs F => ?_)
  refine lv_icmp_eq (tgt := 1140) hx hb dl_701 (by decide) (fun _ => ?_) (fun q => absurd rfl q)
  exact kk S1' S2' hs H locs ls F hl
theorem l_arm17 (C0 : lw_At p s m meth c b L xs) (C2 : jL2 s dC dI dA τ1 τ2 A1 A2 sz) (hL : L ≤ 384) {i n : Nat} (h6 : i + 6 ≤ L) (hroom : cells ≤ room_1.cells ∧ slots ≤ room_1.slots) (hsim : jSim (n + 1) S1 S2) (kk : ∀ S1' S2', jSim n S1' S2' → lGo p l e s m below meth c b dC dI dA τ1 τ2 A1 A2 sz cells slots Q i S1' S2') (F : jLW s dC dI dA τ1 τ2 A1 A2 sz S1 S2 H locs) {ls : Array Slot} (hl : lv_has ls 4 [(0, .ref b), (1, .ref (τ1 0)), (2, .ref (τ2 0)), (3, .int (nI i))]) : W p l e room_1 s m #[Value.ref b] below meth c H locs cells slots Q (F0 m 706 ls []) := by
  obtain ⟨v, S1', S2', hv, hc1, hc2, hs⟩ := hsim 17 _ rfl [xs (i + 1)] rfl
  obtain ⟨x, rfl⟩ := hv
  have hx := C0.1
  have hb := C0.2.1
  refine lv_aload_n hx hb dl_706 rfl (lv_at hl 1 rfl) ?_
  refine lv_aload_n hx hb dl_707 rfl (lv_at hl 0 rfl) ?_
  refine lv_iload_n hx hb dl_708 rfl (lv_at hl 3 rfl) ?_
  refine lv_iconst (v := 1) hx hb dl_709 (by decide) ?_
  refine lv_iadd hx hb dl_710 ?_
  refine l_s C0 (k := 1) h6 (by decide) hL F rfl dl_711 ?_
  refine l_x C0 C2 F (as := [xs (i + 1)]) (n := 1) (w := 1474) (k' := 196) rfl rfl (by rw [j_len]; decide) (by decide +kernel) (by decide +kernel) dl_712 rfl hc1 hroom hl.1 (by decide) (fun H locs F => ?_)
  refine lv_aload_n hx hb dl_715 rfl (lv_at hl 2 rfl) ?_
  refine lv_aload_n hx hb dl_716 rfl (lv_at hl 0 rfl) ?_
  refine lv_iload_n hx hb dl_717 rfl (lv_at hl 3 rfl) ?_
  refine lv_iconst (v := 1) hx hb dl_718 (by decide) ?_
  refine lv_iadd hx hb dl_719 ?_
  refine l_s C0 (k := 1) h6 (by decide) hL F rfl dl_720 ?_
  refine l_m C0 C2 F (as := [xs (i + 1)]) (n := 1) (w := 2733) (k' := 326) rfl rfl (by rw [j_len]; decide) (by decide +kernel) (by decide +kernel) dl_721 rfl hc2 hroom hl.1 (by simp [tv, Value.category]) (fun H locs F => ?_)
  refine lv_icmp_eq (tgt := 1140) hx hb dl_724 (by decide) (fun _ => ?_) (fun q => absurd rfl q)
  exact kk S1' S2' hs H locs ls F hl
theorem l_arm18 (C0 : lw_At p s m meth c b L xs) (C2 : jL2 s dC dI dA τ1 τ2 A1 A2 sz) (hL : L ≤ 384) {i n : Nat} (h6 : i + 6 ≤ L) (hroom : cells ≤ room_1.cells ∧ slots ≤ room_1.slots) (hsim : jSim (n + 1) S1 S2) (kk : ∀ S1' S2', jSim n S1' S2' → lGo p l e s m below meth c b dC dI dA τ1 τ2 A1 A2 sz cells slots Q i S1' S2') (F : jLW s dC dI dA τ1 τ2 A1 A2 sz S1 S2 H locs) {ls : Array Slot} (hl : lv_has ls 4 [(0, .ref b), (1, .ref (τ1 0)), (2, .ref (τ2 0)), (3, .int (nI i))]) : W p l e room_1 s m #[Value.ref b] below meth c H locs cells slots Q (F0 m 729 ls []) := by
  obtain ⟨v, S1', S2', hv, hc1, hc2, hs⟩ := hsim 18 _ rfl [xs (i + 1)] rfl
  obtain ⟨x, rfl⟩ := hv
  have hx := C0.1
  have hb := C0.2.1
  refine lv_aload_n hx hb dl_729 rfl (lv_at hl 1 rfl) ?_
  refine lv_aload_n hx hb dl_730 rfl (lv_at hl 0 rfl) ?_
  refine lv_iload_n hx hb dl_731 rfl (lv_at hl 3 rfl) ?_
  refine lv_iconst (v := 1) hx hb dl_732 (by decide) ?_
  refine lv_iadd hx hb dl_733 ?_
  refine l_s C0 (k := 1) h6 (by decide) hL F rfl dl_734 ?_
  refine l_x C0 C2 F (as := [xs (i + 1)]) (n := 1) (w := 1483) (k' := 197) rfl rfl (by rw [j_len]; decide) (by decide +kernel) (by decide +kernel) dl_735 rfl hc1 hroom hl.1 (by decide) (fun H locs F => ?_)
  refine lv_aload_n hx hb dl_738 rfl (lv_at hl 2 rfl) ?_
  refine lv_aload_n hx hb dl_739 rfl (lv_at hl 0 rfl) ?_
  refine lv_iload_n hx hb dl_740 rfl (lv_at hl 3 rfl) ?_
  refine lv_iconst (v := 1) hx hb dl_741 (by decide) ?_
  refine lv_iadd hx hb dl_742 ?_
  refine l_s C0 (k := 1) h6 (by decide) hL F rfl dl_743 ?_
  refine l_m C0 C2 F (as := [xs (i + 1)]) (n := 1) (w := 2737) (k' := 327) rfl rfl (by rw [j_len]; decide) (by decide +kernel) (by decide +kernel) dl_744 rfl hc2 hroom hl.1 (by simp [tv, Value.category]) (fun H locs F => ?_)
  refine W.lcmp hx hb dl_747 ?_
  refine lv_if_eq (tgt := 1140) hx hb dl_748 (by decide) (fun _ => ?_) (fun q => absurd (show lg_cmp x x = 0 by simp [lg_cmp]) q)
  exact kk S1' S2' hs H locs ls F hl
theorem l_arm19 (C0 : lw_At p s m meth c b L xs) (C2 : jL2 s dC dI dA τ1 τ2 A1 A2 sz) (hL : L ≤ 384) {i n : Nat} (h6 : i + 6 ≤ L) (hroom : cells ≤ room_1.cells ∧ slots ≤ room_1.slots) (hsim : jSim (n + 1) S1 S2) (kk : ∀ S1' S2', jSim n S1' S2' → lGo p l e s m below meth c b dC dI dA τ1 τ2 A1 A2 sz cells slots Q i S1' S2') (F : jLW s dC dI dA τ1 τ2 A1 A2 sz S1 S2 H locs) {ls : Array Slot} (hl : lv_has ls 4 [(0, .ref b), (1, .ref (τ1 0)), (2, .ref (τ2 0)), (3, .int (nI i))]) : W p l e room_1 s m #[Value.ref b] below meth c H locs cells slots Q (F0 m 753 ls []) := by
  obtain ⟨v, S1', S2', hv, hc1, hc2, hs⟩ := hsim 19 _ rfl [xs (i + 1), xs (i + 2)] rfl
  obtain ⟨x, rfl⟩ := hv
  have hx := C0.1
  have hb := C0.2.1
  refine lv_aload_n hx hb dl_753 rfl (lv_at hl 1 rfl) ?_
  refine lv_aload_n hx hb dl_754 rfl (lv_at hl 0 rfl) ?_
  refine lv_iload_n hx hb dl_755 rfl (lv_at hl 3 rfl) ?_
  refine lv_iconst (v := 1) hx hb dl_756 (by decide) ?_
  refine lv_iadd hx hb dl_757 ?_
  refine l_s C0 (k := 1) h6 (by decide) hL F rfl dl_758 ?_
  refine lv_aload_n hx hb dl_759 rfl (lv_at hl 0 rfl) ?_
  refine lv_iload_n hx hb dl_760 rfl (lv_at hl 3 rfl) ?_
  refine lv_iconst (v := 2) hx hb dl_761 (by decide) ?_
  refine lv_iadd hx hb dl_762 ?_
  refine l_s C0 (k := 2) h6 (by decide) hL F rfl dl_763 ?_
  refine l_x C0 C2 F (as := [xs (i + 1), xs (i + 2)]) (n := 2) (w := 1489) (k' := 198) rfl rfl (by rw [j_len]; decide) (by decide +kernel) (by decide +kernel) dl_764 rfl hc1 hroom hl.1 (by decide) (fun H locs F => ?_)
  refine lv_aload_n hx hb dl_767 rfl (lv_at hl 2 rfl) ?_
  refine lv_aload_n hx hb dl_768 rfl (lv_at hl 0 rfl) ?_
  refine lv_iload_n hx hb dl_769 rfl (lv_at hl 3 rfl) ?_
  refine lv_iconst (v := 1) hx hb dl_770 (by decide) ?_
  refine lv_iadd hx hb dl_771 ?_
  refine l_s C0 (k := 1) h6 (by decide) hL F rfl dl_772 ?_
  refine lv_aload_n hx hb dl_773 rfl (lv_at hl 0 rfl) ?_
  refine lv_iload_n hx hb dl_774 rfl (lv_at hl 3 rfl) ?_
  refine lv_iconst (v := 2) hx hb dl_775 (by decide) ?_
  refine lv_iadd hx hb dl_776 ?_
  refine l_s C0 (k := 2) h6 (by decide) hL F rfl dl_777 ?_
  refine l_m C0 C2 F (as := [xs (i + 1), xs (i + 2)]) (n := 2) (w := 2741) (k' := 328) rfl rfl (by rw [j_len]; decide) (by decide +kernel) (by decide +kernel) dl_778 rfl hc2 hroom hl.1 (by simp [tv, Value.category]) (fun H locs F => ?_)
  refine W.lcmp hx hb dl_781 ?_
  refine lv_if_eq (tgt := 1140) hx hb dl_782 (by decide) (fun _ => ?_) (fun q => absurd (show lg_cmp x x = 0 by simp [lg_cmp]) q)
  exact kk S1' S2' hs H locs ls F hl
theorem l_arm20 (C0 : lw_At p s m meth c b L xs) (C2 : jL2 s dC dI dA τ1 τ2 A1 A2 sz) (hL : L ≤ 384) {i n : Nat} (h6 : i + 6 ≤ L) (hroom : cells ≤ room_1.cells ∧ slots ≤ room_1.slots) (hsim : jSim (n + 1) S1 S2) (kk : ∀ S1' S2', jSim n S1' S2' → lGo p l e s m below meth c b dC dI dA τ1 τ2 A1 A2 sz cells slots Q i S1' S2') (F : jLW s dC dI dA τ1 τ2 A1 A2 sz S1 S2 H locs) {ls : Array Slot} (hl : lv_has ls 4 [(0, .ref b), (1, .ref (τ1 0)), (2, .ref (τ2 0)), (3, .int (nI i))]) : W p l e room_1 s m #[Value.ref b] below meth c H locs cells slots Q (F0 m 787 ls []) := by
  obtain ⟨v, S1', S2', hv, hc1, hc2, hs⟩ := hsim 20 _ rfl [xs (i + 1)] rfl
  obtain ⟨x, rfl⟩ := hv
  have hx := C0.1
  have hb := C0.2.1
  refine lv_aload_n hx hb dl_787 rfl (lv_at hl 1 rfl) ?_
  refine lv_aload_n hx hb dl_788 rfl (lv_at hl 0 rfl) ?_
  refine lv_iload_n hx hb dl_789 rfl (lv_at hl 3 rfl) ?_
  refine lv_iconst (v := 1) hx hb dl_790 (by decide) ?_
  refine lv_iadd hx hb dl_791 ?_
  refine l_s C0 (k := 1) h6 (by decide) hL F rfl dl_792 ?_
  refine l_x C0 C2 F (as := [xs (i + 1)]) (n := 1) (w := 1501) (k' := 199) rfl rfl (by rw [j_len]; decide) (by decide +kernel) (by decide +kernel) dl_793 rfl hc1 hroom hl.1 (by decide) (fun H locs F => ?_)
  refine lv_aload_n hx hb dl_796 rfl (lv_at hl 2 rfl) ?_
  refine lv_aload_n hx hb dl_797 rfl (lv_at hl 0 rfl) ?_
  refine lv_iload_n hx hb dl_798 rfl (lv_at hl 3 rfl) ?_
  refine lv_iconst (v := 1) hx hb dl_799 (by decide) ?_
  refine lv_iadd hx hb dl_800 ?_
  refine l_s C0 (k := 1) h6 (by decide) hL F rfl dl_801 ?_
  refine l_m C0 C2 F (as := [xs (i + 1)]) (n := 1) (w := 2523) (k' := 294) rfl rfl (by rw [j_len]; decide) (by decide +kernel) (by decide +kernel) dl_802 rfl hc2 hroom hl.1 (by simp [tv, Value.category]) (fun H locs F => ?_)
  refine lv_icmp_eq (tgt := 1140) hx hb dl_805 (by decide) (fun _ => ?_) (fun q => absurd rfl q)
  exact kk S1' S2' hs H locs ls F hl
theorem l_arm21 (C0 : lw_At p s m meth c b L xs) (C2 : jL2 s dC dI dA τ1 τ2 A1 A2 sz) (hL : L ≤ 384) {i n : Nat} (h6 : i + 6 ≤ L) (hroom : cells ≤ room_1.cells ∧ slots ≤ room_1.slots) (hsim : jSim (n + 1) S1 S2) (kk : ∀ S1' S2', jSim n S1' S2' → lGo p l e s m below meth c b dC dI dA τ1 τ2 A1 A2 sz cells slots Q i S1' S2') (F : jLW s dC dI dA τ1 τ2 A1 A2 sz S1 S2 H locs) {ls : Array Slot} (hl : lv_has ls 4 [(0, .ref b), (1, .ref (τ1 0)), (2, .ref (τ2 0)), (3, .int (nI i))]) : W p l e room_1 s m #[Value.ref b] below meth c H locs cells slots Q (F0 m 810 ls []) := by
  obtain ⟨v, S1', S2', hv, hc1, hc2, hs⟩ := hsim 21 _ rfl [xs (i + 1)] rfl
  obtain ⟨x, rfl⟩ := hv
  have hx := C0.1
  have hb := C0.2.1
  refine lv_aload_n hx hb dl_810 rfl (lv_at hl 1 rfl) ?_
  refine lv_aload_n hx hb dl_811 rfl (lv_at hl 0 rfl) ?_
  refine lv_iload_n hx hb dl_812 rfl (lv_at hl 3 rfl) ?_
  refine lv_iconst (v := 1) hx hb dl_813 (by decide) ?_
  refine lv_iadd hx hb dl_814 ?_
  refine l_s C0 (k := 1) h6 (by decide) hL F rfl dl_815 ?_
  refine l_x C0 C2 F (as := [xs (i + 1)]) (n := 1) (w := 1505) (k' := 200) rfl rfl (by rw [j_len]; decide) (by decide +kernel) (by decide +kernel) dl_816 rfl hc1 hroom hl.1 (by decide) (fun H locs F => ?_)
  refine lv_aload_n hx hb dl_819 rfl (lv_at hl 2 rfl) ?_
  refine lv_aload_n hx hb dl_820 rfl (lv_at hl 0 rfl) ?_
  refine lv_iload_n hx hb dl_821 rfl (lv_at hl 3 rfl) ?_
  refine lv_iconst (v := 1) hx hb dl_822 (by decide) ?_
  refine lv_iadd hx hb dl_823 ?_
  refine l_s C0 (k := 1) h6 (by decide) hL F rfl dl_824 ?_
  refine l_m C0 C2 F (as := [xs (i + 1)]) (n := 1) (w := 2527) (k' := 296) rfl rfl (by rw [j_len]; decide) (by decide +kernel) (by decide +kernel) dl_825 rfl hc2 hroom hl.1 (by simp [tv, Value.category]) (fun H locs F => ?_)
  refine lv_icmp_eq (tgt := 1140) hx hb dl_828 (by decide) (fun _ => ?_) (fun q => absurd rfl q)
  exact kk S1' S2' hs H locs ls F hl
theorem l_arm22 (C0 : lw_At p s m meth c b L xs) (C2 : jL2 s dC dI dA τ1 τ2 A1 A2 sz) (hL : L ≤ 384) {i n : Nat} (h6 : i + 6 ≤ L) (hroom : cells ≤ room_1.cells ∧ slots ≤ room_1.slots) (hsim : jSim (n + 1) S1 S2) (kk : ∀ S1' S2', jSim n S1' S2' → lGo p l e s m below meth c b dC dI dA τ1 τ2 A1 A2 sz cells slots Q i S1' S2') (F : jLW s dC dI dA τ1 τ2 A1 A2 sz S1 S2 H locs) {ls : Array Slot} (hl : lv_has ls 4 [(0, .ref b), (1, .ref (τ1 0)), (2, .ref (τ2 0)), (3, .int (nI i))]) : W p l e room_1 s m #[Value.ref b] below meth c H locs cells slots Q (F0 m 833 ls []) := by
  obtain ⟨v, S1', S2', hv, hc1, hc2, hs⟩ := hsim 22 _ rfl [xs (i + 1)] rfl
  obtain ⟨x, rfl⟩ := hv
  have hx := C0.1
  have hb := C0.2.1
  refine lv_aload_n hx hb dl_833 rfl (lv_at hl 1 rfl) ?_
  refine lv_aload_n hx hb dl_834 rfl (lv_at hl 0 rfl) ?_
  refine lv_iload_n hx hb dl_835 rfl (lv_at hl 3 rfl) ?_
  refine lv_iconst (v := 1) hx hb dl_836 (by decide) ?_
  refine lv_iadd hx hb dl_837 ?_
  refine l_s C0 (k := 1) h6 (by decide) hL F rfl dl_838 ?_
  refine l_x C0 C2 F (as := [xs (i + 1)]) (n := 1) (w := 1647) (k' := 201) rfl rfl (by rw [j_len]; decide) (by decide +kernel) (by decide +kernel) dl_839 rfl hc1 hroom hl.1 (by decide) (fun H locs F => ?_)
  refine lv_aload_n hx hb dl_842 rfl (lv_at hl 2 rfl) ?_
  refine lv_aload_n hx hb dl_843 rfl (lv_at hl 0 rfl) ?_
  refine lv_iload_n hx hb dl_844 rfl (lv_at hl 3 rfl) ?_
  refine lv_iconst (v := 1) hx hb dl_845 (by decide) ?_
  refine lv_iadd hx hb dl_846 ?_
  refine l_s C0 (k := 1) h6 (by decide) hL F rfl dl_847 ?_
  refine l_m C0 C2 F (as := [xs (i + 1)]) (n := 1) (w := 2672) (k' := 297) rfl rfl (by rw [j_len]; decide) (by decide +kernel) (by decide +kernel) dl_848 rfl hc2 hroom hl.1 (by simp [tv, Value.category]) (fun H locs F => ?_)
  refine lv_icmp_eq (tgt := 1140) hx hb dl_851 (by decide) (fun _ => ?_) (fun q => absurd rfl q)
  exact kk S1' S2' hs H locs ls F hl
theorem l_arm23 (C0 : lw_At p s m meth c b L xs) (C2 : jL2 s dC dI dA τ1 τ2 A1 A2 sz) (hL : L ≤ 384) {i n : Nat} (h6 : i + 6 ≤ L) (hroom : cells ≤ room_1.cells ∧ slots ≤ room_1.slots) (hsim : jSim (n + 1) S1 S2) (kk : ∀ S1' S2', jSim n S1' S2' → lGo p l e s m below meth c b dC dI dA τ1 τ2 A1 A2 sz cells slots Q i S1' S2') (F : jLW s dC dI dA τ1 τ2 A1 A2 sz S1 S2 H locs) {ls : Array Slot} (hl : lv_has ls 4 [(0, .ref b), (1, .ref (τ1 0)), (2, .ref (τ2 0)), (3, .int (nI i))]) : W p l e room_1 s m #[Value.ref b] below meth c H locs cells slots Q (F0 m 856 ls []) := by
  obtain ⟨v, S1', S2', hv, hc1, hc2, hs⟩ := hsim 23 _ rfl [xs (i + 1), xs (i + 2)] rfl
  obtain ⟨x, rfl⟩ := hv
  have hx := C0.1
  have hb := C0.2.1
  refine lv_aload_n hx hb dl_856 rfl (lv_at hl 1 rfl) ?_
  refine lv_aload_n hx hb dl_857 rfl (lv_at hl 0 rfl) ?_
  refine lv_iload_n hx hb dl_858 rfl (lv_at hl 3 rfl) ?_
  refine lv_iconst (v := 1) hx hb dl_859 (by decide) ?_
  refine lv_iadd hx hb dl_860 ?_
  refine l_s C0 (k := 1) h6 (by decide) hL F rfl dl_861 ?_
  refine lv_aload_n hx hb dl_862 rfl (lv_at hl 0 rfl) ?_
  refine lv_iload_n hx hb dl_863 rfl (lv_at hl 3 rfl) ?_
  refine lv_iconst (v := 2) hx hb dl_864 (by decide) ?_
  refine lv_iadd hx hb dl_865 ?_
  refine l_s C0 (k := 2) h6 (by decide) hL F rfl dl_866 ?_
  refine l_x C0 C2 F (as := [xs (i + 1), xs (i + 2)]) (n := 2) (w := 1651) (k' := 202) rfl rfl (by rw [j_len]; decide) (by decide +kernel) (by decide +kernel) dl_867 rfl hc1 hroom hl.1 (by decide) (fun H locs F => ?_)
  refine lv_aload_n hx hb dl_870 rfl (lv_at hl 2 rfl) ?_
  refine lv_aload_n hx hb dl_871 rfl (lv_at hl 0 rfl) ?_
  refine lv_iload_n hx hb dl_872 rfl (lv_at hl 3 rfl) ?_
  refine lv_iconst (v := 1) hx hb dl_873 (by decide) ?_
  refine lv_iadd hx hb dl_874 ?_
  refine l_s C0 (k := 1) h6 (by decide) hL F rfl dl_875 ?_
  refine lv_aload_n hx hb dl_876 rfl (lv_at hl 0 rfl) ?_
  refine lv_iload_n hx hb dl_877 rfl (lv_at hl 3 rfl) ?_
  refine lv_iconst (v := 2) hx hb dl_878 (by decide) ?_
  refine lv_iadd hx hb dl_879 ?_
  refine l_s C0 (k := 2) h6 (by decide) hL F rfl dl_880 ?_
  refine l_m C0 C2 F (as := [xs (i + 1), xs (i + 2)]) (n := 2) (w := 2676) (k' := 298) rfl rfl (by rw [j_len]; decide) (by decide +kernel) (by decide +kernel) dl_881 rfl hc2 hroom hl.1 (by simp [tv, Value.category]) (fun H locs F => ?_)
  refine W.lcmp hx hb dl_884 ?_
  refine lv_if_eq (tgt := 1140) hx hb dl_885 (by decide) (fun _ => ?_) (fun q => absurd (show lg_cmp x x = 0 by simp [lg_cmp]) q)
  exact kk S1' S2' hs H locs ls F hl
theorem l_arm24 (C0 : lw_At p s m meth c b L xs) (C2 : jL2 s dC dI dA τ1 τ2 A1 A2 sz) (hL : L ≤ 384) {i n : Nat} (h6 : i + 6 ≤ L) (hroom : cells ≤ room_1.cells ∧ slots ≤ room_1.slots) (hsim : jSim (n + 1) S1 S2) (kk : ∀ S1' S2', jSim n S1' S2' → lGo p l e s m below meth c b dC dI dA τ1 τ2 A1 A2 sz cells slots Q i S1' S2') (F : jLW s dC dI dA τ1 τ2 A1 A2 sz S1 S2 H locs) {ls : Array Slot} (hl : lv_has ls 4 [(0, .ref b), (1, .ref (τ1 0)), (2, .ref (τ2 0)), (3, .int (nI i))]) : W p l e room_1 s m #[Value.ref b] below meth c H locs cells slots Q (F0 m 890 ls []) := by
  obtain ⟨v, S1', S2', hv, hc1, hc2, hs⟩ := hsim 24 _ rfl [xs (i + 1)] rfl
  obtain ⟨x, rfl⟩ := hv
  have hx := C0.1
  have hb := C0.2.1
  refine lv_aload_n hx hb dl_890 rfl (lv_at hl 1 rfl) ?_
  refine lv_aload_n hx hb dl_891 rfl (lv_at hl 0 rfl) ?_
  refine lv_iload_n hx hb dl_892 rfl (lv_at hl 3 rfl) ?_
  refine lv_iconst (v := 1) hx hb dl_893 (by decide) ?_
  refine lv_iadd hx hb dl_894 ?_
  refine l_s C0 (k := 1) h6 (by decide) hL F rfl dl_895 ?_
  refine l_x C0 C2 F (as := [xs (i + 1)]) (n := 1) (w := 1659) (k' := 203) rfl rfl (by rw [j_len]; decide) (by decide +kernel) (by decide +kernel) dl_896 rfl hc1 hroom hl.1 (by decide) (fun H locs F => ?_)
  refine lv_aload_n hx hb dl_899 rfl (lv_at hl 2 rfl) ?_
  refine lv_aload_n hx hb dl_900 rfl (lv_at hl 0 rfl) ?_
  refine lv_iload_n hx hb dl_901 rfl (lv_at hl 3 rfl) ?_
  refine lv_iconst (v := 1) hx hb dl_902 (by decide) ?_
  refine lv_iadd hx hb dl_903 ?_
  refine l_s C0 (k := 1) h6 (by decide) hL F rfl dl_904 ?_
  refine l_m C0 C2 F (as := [xs (i + 1)]) (n := 1) (w := 2745) (k' := 334) rfl rfl (by rw [j_len]; decide) (by decide +kernel) (by decide +kernel) dl_905 rfl hc2 hroom hl.1 (by simp [tv, Value.category]) (fun H locs F => ?_)
  refine lv_icmp_eq (tgt := 1140) hx hb dl_908 (by decide) (fun _ => ?_) (fun q => absurd rfl q)
  exact kk S1' S2' hs H locs ls F hl
theorem l_arm25 (C0 : lw_At p s m meth c b L xs) (C2 : jL2 s dC dI dA τ1 τ2 A1 A2 sz) (hL : L ≤ 384) {i n : Nat} (h6 : i + 6 ≤ L) (hroom : cells ≤ room_1.cells ∧ slots ≤ room_1.slots) (hsim : jSim (n + 1) S1 S2) (kk : ∀ S1' S2', jSim n S1' S2' → lGo p l e s m below meth c b dC dI dA τ1 τ2 A1 A2 sz cells slots Q i S1' S2') (F : jLW s dC dI dA τ1 τ2 A1 A2 sz S1 S2 H locs) {ls : Array Slot} (hl : lv_has ls 4 [(0, .ref b), (1, .ref (τ1 0)), (2, .ref (τ2 0)), (3, .int (nI i))]) : W p l e room_1 s m #[Value.ref b] below meth c H locs cells slots Q (F0 m 913 ls []) := by
  obtain ⟨v, S1', S2', hv, hc1, hc2, hs⟩ := hsim 25 _ rfl [xs (i + 1), xs (i + 2)] rfl
  obtain ⟨x, rfl⟩ := hv
  have hx := C0.1
  have hb := C0.2.1
  refine lv_aload_n hx hb dl_913 rfl (lv_at hl 1 rfl) ?_
  refine lv_aload_n hx hb dl_914 rfl (lv_at hl 0 rfl) ?_
  refine lv_iload_n hx hb dl_915 rfl (lv_at hl 3 rfl) ?_
  refine lv_iconst (v := 1) hx hb dl_916 (by decide) ?_
  refine lv_iadd hx hb dl_917 ?_
  refine l_s C0 (k := 1) h6 (by decide) hL F rfl dl_918 ?_
  refine lv_aload_n hx hb dl_919 rfl (lv_at hl 0 rfl) ?_
  refine lv_iload_n hx hb dl_920 rfl (lv_at hl 3 rfl) ?_
  refine lv_iconst (v := 2) hx hb dl_921 (by decide) ?_
  refine lv_iadd hx hb dl_922 ?_
  refine l_s C0 (k := 2) h6 (by decide) hL F rfl dl_923 ?_
  refine l_x C0 C2 F (as := [xs (i + 1), xs (i + 2)]) (n := 2) (w := 1701) (k' := 204) rfl rfl (by rw [j_len]; decide) (by decide +kernel) (by decide +kernel) dl_924 rfl hc1 hroom hl.1 (by decide) (fun H locs F => ?_)
  refine lv_aload_n hx hb dl_927 rfl (lv_at hl 2 rfl) ?_
  refine lv_aload_n hx hb dl_928 rfl (lv_at hl 0 rfl) ?_
  refine lv_iload_n hx hb dl_929 rfl (lv_at hl 3 rfl) ?_
  refine lv_iconst (v := 1) hx hb dl_930 (by decide) ?_
  refine lv_iadd hx hb dl_931 ?_
  refine l_s C0 (k := 1) h6 (by decide) hL F rfl dl_932 ?_
  refine lv_aload_n hx hb dl_933 rfl (lv_at hl 0 rfl) ?_
  refine lv_iload_n hx hb dl_934 rfl (lv_at hl 3 rfl) ?_
  refine lv_iconst (v := 2) hx hb dl_935 (by decide) ?_
  refine lv_iadd hx hb dl_936 ?_
  refine l_s C0 (k := 2) h6 (by decide) hL F rfl dl_937 ?_
  refine l_m C0 C2 F (as := [xs (i + 1), xs (i + 2)]) (n := 2) (w := 2781) (k' := 338) rfl rfl (by rw [j_len]; decide) (by decide +kernel) (by decide +kernel) dl_938 rfl hc2 hroom hl.1 (by simp [tv, Value.category]) (fun H locs F => ?_)
  refine lv_icmp_eq (tgt := 1140) hx hb dl_941 (by decide) (fun _ => ?_) (fun q => absurd rfl q)
  exact kk S1' S2' hs H locs ls F hl
theorem l_arm26 (C0 : lw_At p s m meth c b L xs) (C2 : jL2 s dC dI dA τ1 τ2 A1 A2 sz) (hL : L ≤ 384) {i n : Nat} (h6 : i + 6 ≤ L) (hroom : cells ≤ room_1.cells ∧ slots ≤ room_1.slots) (hsim : jSim (n + 1) S1 S2) (kk : ∀ S1' S2', jSim n S1' S2' → lGo p l e s m below meth c b dC dI dA τ1 τ2 A1 A2 sz cells slots Q i S1' S2') (F : jLW s dC dI dA τ1 τ2 A1 A2 sz S1 S2 H locs) {ls : Array Slot} (hl : lv_has ls 4 [(0, .ref b), (1, .ref (τ1 0)), (2, .ref (τ2 0)), (3, .int (nI i))]) : W p l e room_1 s m #[Value.ref b] below meth c H locs cells slots Q (F0 m 946 ls []) := by
  obtain ⟨v, S1', S2', hv, hc1, hc2, hs⟩ := hsim 26 _ rfl [xs (i + 1), xs (i + 2)] rfl
  obtain ⟨x, rfl⟩ := hv
  have hx := C0.1
  have hb := C0.2.1
  refine lv_aload_n hx hb dl_946 rfl (lv_at hl 1 rfl) ?_
  refine lv_aload_n hx hb dl_947 rfl (lv_at hl 0 rfl) ?_
  refine lv_iload_n hx hb dl_948 rfl (lv_at hl 3 rfl) ?_
  refine lv_iconst (v := 1) hx hb dl_949 (by decide) ?_
  refine lv_iadd hx hb dl_950 ?_
  refine l_s C0 (k := 1) h6 (by decide) hL F rfl dl_951 ?_
  refine lv_aload_n hx hb dl_952 rfl (lv_at hl 0 rfl) ?_
  refine lv_iload_n hx hb dl_953 rfl (lv_at hl 3 rfl) ?_
  refine lv_iconst (v := 2) hx hb dl_954 (by decide) ?_
  refine lv_iadd hx hb dl_955 ?_
  refine l_s C0 (k := 2) h6 (by decide) hL F rfl dl_956 ?_
  refine l_x C0 C2 F (as := [xs (i + 1), xs (i + 2)]) (n := 2) (w := 1709) (k' := 205) rfl rfl (by rw [j_len]; decide) (by decide +kernel) (by decide +kernel) dl_957 rfl hc1 hroom hl.1 (by decide) (fun H locs F => ?_)
  refine lv_aload_n hx hb dl_960 rfl (lv_at hl 2 rfl) ?_
  refine lv_aload_n hx hb dl_961 rfl (lv_at hl 0 rfl) ?_
  refine lv_iload_n hx hb dl_962 rfl (lv_at hl 3 rfl) ?_
  refine lv_iconst (v := 1) hx hb dl_963 (by decide) ?_
  refine lv_iadd hx hb dl_964 ?_
  refine l_s C0 (k := 1) h6 (by decide) hL F rfl dl_965 ?_
  refine lv_aload_n hx hb dl_966 rfl (lv_at hl 0 rfl) ?_
  refine lv_iload_n hx hb dl_967 rfl (lv_at hl 3 rfl) ?_
  refine lv_iconst (v := 2) hx hb dl_968 (by decide) ?_
  refine lv_iadd hx hb dl_969 ?_
  refine l_s C0 (k := 2) h6 (by decide) hL F rfl dl_970 ?_
  refine l_m C0 C2 F (as := [xs (i + 1), xs (i + 2)]) (n := 2) (w := 2785) (k' := 339) rfl rfl (by rw [j_len]; decide) (by decide +kernel) (by decide +kernel) dl_971 rfl hc2 hroom hl.1 (by simp [tv, Value.category]) (fun H locs F => ?_)
  refine lv_icmp_eq (tgt := 1140) hx hb dl_974 (by decide) (fun _ => ?_) (fun q => absurd rfl q)
  exact kk S1' S2' hs H locs ls F hl
theorem l_arm27 (C0 : lw_At p s m meth c b L xs) (C2 : jL2 s dC dI dA τ1 τ2 A1 A2 sz) (hL : L ≤ 384) {i n : Nat} (h6 : i + 6 ≤ L) (hroom : cells ≤ room_1.cells ∧ slots ≤ room_1.slots) (hsim : jSim (n + 1) S1 S2) (kk : ∀ S1' S2', jSim n S1' S2' → lGo p l e s m below meth c b dC dI dA τ1 τ2 A1 A2 sz cells slots Q i S1' S2') (F : jLW s dC dI dA τ1 τ2 A1 A2 sz S1 S2 H locs) {ls : Array Slot} (hl : lv_has ls 4 [(0, .ref b), (1, .ref (τ1 0)), (2, .ref (τ2 0)), (3, .int (nI i))]) : W p l e room_1 s m #[Value.ref b] below meth c H locs cells slots Q (F0 m 979 ls []) := by
  obtain ⟨v, S1', S2', hv, hc1, hc2, hs⟩ := hsim 27 _ rfl [] rfl
  obtain ⟨x, rfl⟩ := hv
  have hx := C0.1
  have hb := C0.2.1
  refine lv_aload_n hx hb dl_979 rfl (lv_at hl 1 rfl) ?_
  refine l_x C0 C2 F (as := []) (n := 0) (w := 1749) (k' := 206) rfl rfl (by rw [j_len]; decide) (by decide +kernel) (by decide +kernel) dl_980 rfl hc1 hroom hl.1 (by decide) (fun H locs F => ?_)
  refine lv_aload_n hx hb dl_983 rfl (lv_at hl 2 rfl) ?_
  refine l_m C0 C2 F (as := []) (n := 0) (w := 2797) (k' := 342) rfl rfl (by rw [j_len]; decide) (by decide +kernel) (by decide +kernel) dl_984 rfl hc2 hroom hl.1 (by simp [tv, Value.category]) (fun H locs F => ?_)
  refine lv_icmp_eq (tgt := 1140) hx hb dl_987 (by decide) (fun _ => ?_) (fun q => absurd rfl q)
  exact kk S1' S2' hs H locs ls F hl
theorem l_arm28 (C0 : lw_At p s m meth c b L xs) (C2 : jL2 s dC dI dA τ1 τ2 A1 A2 sz) (hL : L ≤ 384) {i n : Nat} (h6 : i + 6 ≤ L) (hroom : cells ≤ room_1.cells ∧ slots ≤ room_1.slots) (hsim : jSim (n + 1) S1 S2) (kk : ∀ S1' S2', jSim n S1' S2' → lGo p l e s m below meth c b dC dI dA τ1 τ2 A1 A2 sz cells slots Q i S1' S2') (F : jLW s dC dI dA τ1 τ2 A1 A2 sz S1 S2 H locs) {ls : Array Slot} (hl : lv_has ls 4 [(0, .ref b), (1, .ref (τ1 0)), (2, .ref (τ2 0)), (3, .int (nI i))]) : W p l e room_1 s m #[Value.ref b] below meth c H locs cells slots Q (F0 m 992 ls []) := by
  obtain ⟨v, S1', S2', hv, hc1, hc2, hs⟩ := hsim 28 _ rfl [xs (i + 1)] rfl
  obtain ⟨x, rfl⟩ := hv
  have hx := C0.1
  have hb := C0.2.1
  refine lv_aload_n hx hb dl_992 rfl (lv_at hl 1 rfl) ?_
  refine lv_aload_n hx hb dl_993 rfl (lv_at hl 0 rfl) ?_
  refine lv_iload_n hx hb dl_994 rfl (lv_at hl 3 rfl) ?_
  refine lv_iconst (v := 1) hx hb dl_995 (by decide) ?_
  refine lv_iadd hx hb dl_996 ?_
  refine l_s C0 (k := 1) h6 (by decide) hL F rfl dl_997 ?_
  refine l_x C0 C2 F (as := [xs (i + 1)]) (n := 1) (w := 1763) (k' := 207) rfl rfl (by rw [j_len]; decide) (by decide +kernel) (by decide +kernel) dl_998 rfl hc1 hroom hl.1 (by decide) (fun H locs F => ?_)
  refine lv_aload_n hx hb dl_1001 rfl (lv_at hl 2 rfl) ?_
  refine lv_aload_n hx hb dl_1002 rfl (lv_at hl 0 rfl) ?_
  refine lv_iload_n hx hb dl_1003 rfl (lv_at hl 3 rfl) ?_
  refine lv_iconst (v := 1) hx hb dl_1004 (by decide) ?_
  refine lv_iadd hx hb dl_1005 ?_
  refine l_s C0 (k := 1) h6 (by decide) hL F rfl dl_1006 ?_
  refine l_m C0 C2 F (as := [xs (i + 1)]) (n := 1) (w := 2805) (k' := 344) rfl rfl (by rw [j_len]; decide) (by decide +kernel) (by decide +kernel) dl_1007 rfl hc2 hroom hl.1 (by simp [tv, Value.category]) (fun H locs F => ?_)
  refine lv_icmp_eq (tgt := 1140) hx hb dl_1010 (by decide) (fun _ => ?_) (fun q => absurd rfl q)
  exact kk S1' S2' hs H locs ls F hl
theorem l_arm29 (C0 : lw_At p s m meth c b L xs) (C2 : jL2 s dC dI dA τ1 τ2 A1 A2 sz) (hL : L ≤ 384) {i n : Nat} (h6 : i + 6 ≤ L) (hroom : cells ≤ room_1.cells ∧ slots ≤ room_1.slots) (hsim : jSim (n + 1) S1 S2) (kk : ∀ S1' S2', jSim n S1' S2' → lGo p l e s m below meth c b dC dI dA τ1 τ2 A1 A2 sz cells slots Q i S1' S2') (F : jLW s dC dI dA τ1 τ2 A1 A2 sz S1 S2 H locs) {ls : Array Slot} (hl : lv_has ls 4 [(0, .ref b), (1, .ref (τ1 0)), (2, .ref (τ2 0)), (3, .int (nI i))]) : W p l e room_1 s m #[Value.ref b] below meth c H locs cells slots Q (F0 m 1015 ls []) := by
  obtain ⟨v, S1', S2', hv, hc1, hc2, hs⟩ := hsim 29 _ rfl [] rfl
  obtain ⟨x, rfl⟩ := hv
  have hx := C0.1
  have hb := C0.2.1
  refine lv_aload_n hx hb dl_1015 rfl (lv_at hl 1 rfl) ?_
  refine l_x C0 C2 F (as := []) (n := 0) (w := 1767) (k' := 208) rfl rfl (by rw [j_len]; decide) (by decide +kernel) (by decide +kernel) dl_1016 rfl hc1 hroom hl.1 (by decide) (fun H locs F => ?_)
  refine lv_aload_n hx hb dl_1019 rfl (lv_at hl 2 rfl) ?_
  refine l_m C0 C2 F (as := []) (n := 0) (w := 2809) (k' := 348) rfl rfl (by rw [j_len]; decide) (by decide +kernel) (by decide +kernel) dl_1020 rfl hc2 hroom hl.1 (by simp [tv, Value.category]) (fun H locs F => ?_)
  refine lv_icmp_eq (tgt := 1140) hx hb dl_1023 (by decide) (fun _ => ?_) (fun q => absurd rfl q)
  exact kk S1' S2' hs H locs ls F hl
theorem l_arm30 (C0 : lw_At p s m meth c b L xs) (C2 : jL2 s dC dI dA τ1 τ2 A1 A2 sz) (hL : L ≤ 384) {i n : Nat} (h6 : i + 6 ≤ L) (hroom : cells ≤ room_1.cells ∧ slots ≤ room_1.slots) (hsim : jSim (n + 1) S1 S2) (kk : ∀ S1' S2', jSim n S1' S2' → lGo p l e s m below meth c b dC dI dA τ1 τ2 A1 A2 sz cells slots Q i S1' S2') (F : jLW s dC dI dA τ1 τ2 A1 A2 sz S1 S2 H locs) {ls : Array Slot} (hl : lv_has ls 4 [(0, .ref b), (1, .ref (τ1 0)), (2, .ref (τ2 0)), (3, .int (nI i))]) : W p l e room_1 s m #[Value.ref b] below meth c H locs cells slots Q (F0 m 1028 ls []) := by
  obtain ⟨v, S1', S2', hv, hc1, hc2, hs⟩ := hsim 30 _ rfl [xs (i + 1), xs (i + 2)] rfl
  obtain ⟨x, rfl⟩ := hv
  have hx := C0.1
  have hb := C0.2.1
  refine lv_aload_n hx hb dl_1028 rfl (lv_at hl 1 rfl) ?_
  refine lv_aload_n hx hb dl_1029 rfl (lv_at hl 0 rfl) ?_
  refine lv_iload_n hx hb dl_1030 rfl (lv_at hl 3 rfl) ?_
  refine lv_iconst (v := 1) hx hb dl_1031 (by decide) ?_
  refine lv_iadd hx hb dl_1032 ?_
  refine l_s C0 (k := 1) h6 (by decide) hL F rfl dl_1033 ?_
  refine lv_aload_n hx hb dl_1034 rfl (lv_at hl 0 rfl) ?_
  refine lv_iload_n hx hb dl_1035 rfl (lv_at hl 3 rfl) ?_
  refine lv_iconst (v := 2) hx hb dl_1036 (by decide) ?_
  refine lv_iadd hx hb dl_1037 ?_
  refine l_s C0 (k := 2) h6 (by decide) hL F rfl dl_1038 ?_
  refine l_x C0 C2 F (as := [xs (i + 1), xs (i + 2)]) (n := 2) (w := 1826) (k' := 209) rfl rfl (by rw [j_len]; decide) (by decide +kernel) (by decide +kernel) dl_1039 rfl hc1 hroom hl.1 (by decide) (fun H locs F => ?_)
  refine lv_aload_n hx hb dl_1042 rfl (lv_at hl 2 rfl) ?_
  refine lv_aload_n hx hb dl_1043 rfl (lv_at hl 0 rfl) ?_
  refine lv_iload_n hx hb dl_1044 rfl (lv_at hl 3 rfl) ?_
  refine lv_iconst (v := 1) hx hb dl_1045 (by decide) ?_
  refine lv_iadd hx hb dl_1046 ?_
  refine l_s C0 (k := 1) h6 (by decide) hL F rfl dl_1047 ?_
  refine lv_aload_n hx hb dl_1048 rfl (lv_at hl 0 rfl) ?_
  refine lv_iload_n hx hb dl_1049 rfl (lv_at hl 3 rfl) ?_
  refine lv_iconst (v := 2) hx hb dl_1050 (by decide) ?_
  refine lv_iadd hx hb dl_1051 ?_
  refine l_s C0 (k := 2) h6 (by decide) hL F rfl dl_1052 ?_
  refine l_m C0 C2 F (as := [xs (i + 1), xs (i + 2)]) (n := 2) (w := 2844) (k' := 354) rfl rfl (by rw [j_len]; decide) (by decide +kernel) (by decide +kernel) dl_1053 rfl hc2 hroom hl.1 (by simp [tv, Value.category]) (fun H locs F => ?_)
  refine lv_icmp_eq (tgt := 1140) hx hb dl_1056 (by decide) (fun _ => ?_) (fun q => absurd rfl q)
  exact kk S1' S2' hs H locs ls F hl
theorem l_arm31 (C0 : lw_At p s m meth c b L xs) (C2 : jL2 s dC dI dA τ1 τ2 A1 A2 sz) (hL : L ≤ 384) {i n : Nat} (h6 : i + 6 ≤ L) (hroom : cells ≤ room_1.cells ∧ slots ≤ room_1.slots) (hsim : jSim (n + 1) S1 S2) (kk : ∀ S1' S2', jSim n S1' S2' → lGo p l e s m below meth c b dC dI dA τ1 τ2 A1 A2 sz cells slots Q i S1' S2') (F : jLW s dC dI dA τ1 τ2 A1 A2 sz S1 S2 H locs) {ls : Array Slot} (hl : lv_has ls 4 [(0, .ref b), (1, .ref (τ1 0)), (2, .ref (τ2 0)), (3, .int (nI i))]) : W p l e room_1 s m #[Value.ref b] below meth c H locs cells slots Q (F0 m 1061 ls []) := by
  obtain ⟨v, S1', S2', hv, hc1, hc2, hs⟩ := hsim 31 _ rfl [xs (i + 1), xs (i + 2)] rfl
  obtain ⟨x, rfl⟩ := hv
  have hx := C0.1
  have hb := C0.2.1
  refine lv_aload_n hx hb dl_1061 rfl (lv_at hl 1 rfl) ?_
  refine lv_aload_n hx hb dl_1062 rfl (lv_at hl 0 rfl) ?_
  refine lv_iload_n hx hb dl_1063 rfl (lv_at hl 3 rfl) ?_
  refine lv_iconst (v := 1) hx hb dl_1064 (by decide) ?_
  refine lv_iadd hx hb dl_1065 ?_
  refine l_s C0 (k := 1) h6 (by decide) hL F rfl dl_1066 ?_
  refine lv_aload_n hx hb dl_1067 rfl (lv_at hl 0 rfl) ?_
  refine lv_iload_n hx hb dl_1068 rfl (lv_at hl 3 rfl) ?_
  refine lv_iconst (v := 2) hx hb dl_1069 (by decide) ?_
  refine lv_iadd hx hb dl_1070 ?_
  refine l_s C0 (k := 2) h6 (by decide) hL F rfl dl_1071 ?_
  refine l_x C0 C2 F (as := [xs (i + 1), xs (i + 2)]) (n := 2) (w := 1831) (k' := 210) rfl rfl (by rw [j_len]; decide) (by decide +kernel) (by decide +kernel) dl_1072 rfl hc1 hroom hl.1 (by decide) (fun H locs F => ?_)
  refine lv_aload_n hx hb dl_1075 rfl (lv_at hl 2 rfl) ?_
  refine lv_aload_n hx hb dl_1076 rfl (lv_at hl 0 rfl) ?_
  refine lv_iload_n hx hb dl_1077 rfl (lv_at hl 3 rfl) ?_
  refine lv_iconst (v := 1) hx hb dl_1078 (by decide) ?_
  refine lv_iadd hx hb dl_1079 ?_
  refine l_s C0 (k := 1) h6 (by decide) hL F rfl dl_1080 ?_
  refine lv_aload_n hx hb dl_1081 rfl (lv_at hl 0 rfl) ?_
  refine lv_iload_n hx hb dl_1082 rfl (lv_at hl 3 rfl) ?_
  refine lv_iconst (v := 2) hx hb dl_1083 (by decide) ?_
  refine lv_iadd hx hb dl_1084 ?_
  refine l_s C0 (k := 2) h6 (by decide) hL F rfl dl_1085 ?_
  refine l_m C0 C2 F (as := [xs (i + 1), xs (i + 2)]) (n := 2) (w := 2848) (k' := 355) rfl rfl (by rw [j_len]; decide) (by decide +kernel) (by decide +kernel) dl_1086 rfl hc2 hroom hl.1 (by simp [tv, Value.category]) (fun H locs F => ?_)
  refine lv_icmp_eq (tgt := 1140) hx hb dl_1089 (by decide) (fun _ => ?_) (fun q => absurd rfl q)
  exact kk S1' S2' hs H locs ls F hl
theorem l_arm32 (C0 : lw_At p s m meth c b L xs) (C2 : jL2 s dC dI dA τ1 τ2 A1 A2 sz) (hL : L ≤ 384) {i n : Nat} (h6 : i + 6 ≤ L) (hroom : cells ≤ room_1.cells ∧ slots ≤ room_1.slots) (hsim : jSim (n + 1) S1 S2) (kk : ∀ S1' S2', jSim n S1' S2' → lGo p l e s m below meth c b dC dI dA τ1 τ2 A1 A2 sz cells slots Q i S1' S2') (F : jLW s dC dI dA τ1 τ2 A1 A2 sz S1 S2 H locs) {ls : Array Slot} (hl : lv_has ls 4 [(0, .ref b), (1, .ref (τ1 0)), (2, .ref (τ2 0)), (3, .int (nI i))]) : W p l e room_1 s m #[Value.ref b] below meth c H locs cells slots Q (F0 m 1094 ls []) := by
  obtain ⟨v, S1', S2', hv, hc1, hc2, hs⟩ := hsim 32 _ rfl [] rfl
  obtain ⟨x, rfl⟩ := hv
  have hx := C0.1
  have hb := C0.2.1
  refine lv_aload_n hx hb dl_1094 rfl (lv_at hl 1 rfl) ?_
  refine l_x C0 C2 F (as := []) (n := 0) (w := 1835) (k' := 211) rfl rfl (by rw [j_len]; decide) (by decide +kernel) (by decide +kernel) dl_1095 rfl hc1 hroom hl.1 (by decide) (fun H locs F => ?_)
  refine lv_aload_n hx hb dl_1098 rfl (lv_at hl 2 rfl) ?_
  refine l_m C0 C2 F (as := []) (n := 0) (w := 2852) (k' := 356) rfl rfl (by rw [j_len]; decide) (by decide +kernel) (by decide +kernel) dl_1099 rfl hc2 hroom hl.1 (by simp [tv, Value.category]) (fun H locs F => ?_)
  refine lv_icmp_eq (tgt := 1140) hx hb dl_1102 (by decide) (fun _ => ?_) (fun q => absurd rfl q)
  exact kk S1' S2' hs H locs ls F hl
theorem l_arm33 (C0 : lw_At p s m meth c b L xs) (C2 : jL2 s dC dI dA τ1 τ2 A1 A2 sz) (hL : L ≤ 384) {i n : Nat} (h6 : i + 6 ≤ L) (hroom : cells ≤ room_1.cells ∧ slots ≤ room_1.slots) (hsim : jSim (n + 1) S1 S2) (kk : ∀ S1' S2', jSim n S1' S2' → lGo p l e s m below meth c b dC dI dA τ1 τ2 A1 A2 sz cells slots Q i S1' S2') (F : jLW s dC dI dA τ1 τ2 A1 A2 sz S1 S2 H locs) {ls : Array Slot} (hl : lv_has ls 4 [(0, .ref b), (1, .ref (τ1 0)), (2, .ref (τ2 0)), (3, .int (nI i))]) : W p l e room_1 s m #[Value.ref b] below meth c H locs cells slots Q (F0 m 1107 ls []) := by
  obtain ⟨v, S1', S2', hv, hc1, hc2, hs⟩ := hsim 33 _ rfl [xs (i + 1), xs (i + 2)] rfl
  obtain ⟨x, rfl⟩ := hv
  have hx := C0.1
  have hb := C0.2.1
  refine lv_aload_n hx hb dl_1107 rfl (lv_at hl 1 rfl) ?_
  refine lv_aload_n hx hb dl_1108 rfl (lv_at hl 0 rfl) ?_
  refine lv_iload_n hx hb dl_1109 rfl (lv_at hl 3 rfl) ?_
  refine lv_iconst (v := 1) hx hb dl_1110 (by decide) ?_
  refine lv_iadd hx hb dl_1111 ?_
  refine l_s C0 (k := 1) h6 (by decide) hL F rfl dl_1112 ?_
  refine lv_aload_n hx hb dl_1113 rfl (lv_at hl 0 rfl) ?_
  refine lv_iload_n hx hb dl_1114 rfl (lv_at hl 3 rfl) ?_
  refine lv_iconst (v := 2) hx hb dl_1115 (by decide) ?_
  refine lv_iadd hx hb dl_1116 ?_
  refine l_s C0 (k := 2) h6 (by decide) hL F rfl dl_1117 ?_
  refine l_x C0 C2 F (as := [xs (i + 1), xs (i + 2)]) (n := 2) (w := 1858) (k' := 212) rfl rfl (by rw [j_len]; decide) (by decide +kernel) (by decide +kernel) dl_1118 rfl hc1 hroom hl.1 (by decide) (fun H locs F => ?_)
  refine lv_aload_n hx hb dl_1121 rfl (lv_at hl 2 rfl) ?_
  refine lv_aload_n hx hb dl_1122 rfl (lv_at hl 0 rfl) ?_
  refine lv_iload_n hx hb dl_1123 rfl (lv_at hl 3 rfl) ?_
  refine lv_iconst (v := 1) hx hb dl_1124 (by decide) ?_
  refine lv_iadd hx hb dl_1125 ?_
  refine l_s C0 (k := 1) h6 (by decide) hL F rfl dl_1126 ?_
  refine lv_aload_n hx hb dl_1127 rfl (lv_at hl 0 rfl) ?_
  refine lv_iload_n hx hb dl_1128 rfl (lv_at hl 3 rfl) ?_
  refine lv_iconst (v := 2) hx hb dl_1129 (by decide) ?_
  refine lv_iadd hx hb dl_1130 ?_
  refine l_s C0 (k := 2) h6 (by decide) hL F rfl dl_1131 ?_
  refine l_m C0 C2 F (as := [xs (i + 1), xs (i + 2)]) (n := 2) (w := 2868) (k' := 360) rfl rfl (by rw [j_len]; decide) (by decide +kernel) (by decide +kernel) dl_1132 rfl hc2 hroom hl.1 (by simp [tv, Value.category]) (fun H locs F => ?_)
  refine lv_icmp_eq (tgt := 1140) hx hb dl_1135 (by decide) (fun _ => ?_) (fun q => absurd rfl q)
  exact kk S1' S2' hs H locs ls F hl
end LAW2
