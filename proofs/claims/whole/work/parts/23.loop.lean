/-! THE LAW'S LOOP AND ITS START -/
theorem l_and63 (y : Int32) : ∃ n : Nat, n < 64 ∧ y &&& 63 = nI n := by
  refine ⟨(y.toBitVec &&& 63#32).toNat, ?_, ?_⟩
  · rw [BitVec.toNat_and]
    exact Nat.lt_of_le_of_lt Nat.and_le_right (by decide)
  · apply Int32.toBitVec_inj.mp
    show y.toBitVec &&& 63#32 = BitVec.ofNat 32 _
    rw [BitVec.ofNat_toNat, BitVec.setWidth_eq]
set_option maxRecDepth 100000 in
theorem l_sub6 : ∀ L, L < 385 → (Int32.ofNat L - 6).toInt = (L : Int) - 6 := by decide +kernel
theorem l_gt {L i : Nat} (hL : L ≤ 384) (hi : i ≤ 390) : Int32.ofNat L - 6 < nI i ↔ L < i + 6 := by
  rw [Int32.lt_iff_toInt_lt, l_sub6 L (by omega), nI_toInt (by omega)]
  omega
theorem l_toInt : ∀ n, n < 64 → (nI n).toInt = (n : Int) := by decide +kernel
section LOOP
variable {p : Program} {l : Launch} {e : Env} {s : State} {m : MethodId} {below : List Frame} {meth : Method} {c : Code} {b L : Nat} {xs : Nat → Int32} {cells slots : Nat}
variable {dC : Nat → ClassId} {dI : Nat → Nat → Nat} {dA : Nat → ClassId} {τ1 τ2 : Nat → Nat} {A1 A2 : Nat → Prop} {sz : Nat}
set_option maxHeartbeats 2000000 in
theorem law_loop (C0 : lw_At p s m meth c b L xs) (C2 : jL2 s dC dI dA τ1 τ2 A1 A2 sz) (hL : L ≤ 384) (hroom : cells ≤ room_1.cells ∧ slots ≤ room_1.slots) : ∀ (n i : Nat) (S1 S2 : jS), jSim n S1 S2 → L ≤ i + 6 * n + 5 → i ≤ 390 → ∀ (H : Heap) (locs : List Loc) (ls : Array Slot), jLW s dC dI dA τ1 τ2 A1 A2 sz S1 S2 H locs → lv_has ls 4 [(0, .ref b), (1, .ref (τ1 0)), (2, .ref (τ2 0)), (3, .int (nI i))] → W p l e room_1 s m #[Value.ref b] below meth c H locs cells slots (lw_Z below #[Value.ref b] s) (F0 m 18 ls []) := by
  have hL4 : L ≤ 384 := by omega
  obtain ⟨hx, hb, hr, hml, hown, hts, hX, hbl, hlk, hgv⟩ := id C0
  intro n
  induction n with
  | zero =>
    intro i S1 S2 _ hn hi H locs ls F hl
    refine lv_iload_n hx hb dl_18 rfl (lv_at hl 3 rfl) ?_
    refine lv_aload_n hx hb dl_19 rfl (lv_at hl 0 rfl) ?_
    refine va_slen (A := fun q : Nat => s.heap.size ≤ q) hx hb hX hbl (Nat.not_le.mpr hbl) F.2.2.2.2.1 dl_20 ?_
    refine lv_bipush (v := 6) hx hb dl_21 (by decide) ?_
    refine lv_isub hx hb dl_23 ?_
    refine lv_icmp_gt (tgt := 1146) hx hb dl_24 (by decide) (fun _ => ?_) (fun q => absurd ((l_gt hL4 hi).mpr (by omega)) q)
    refine lv_iconst (v := 1) hx hb dl_1146 (by decide) ?_
    refine va_forget (fun q hq => F.2.2.2.2.1.2.2 q hq) ?_
    refine W.widen (k := 600000) (n := 7302250) hroom.1 hroom.2 ?_
    exact lw_ret hx hb hr hlk dl_1147
  | succ n ih =>
    intro i S1 S2 hsim hn hi H locs ls F hl
    have go : ∀ S1' S2', jSim n S1' S2' → i + 6 ≤ L → lGo p l e s m below meth c b dC dI dA τ1 τ2 A1 A2 sz cells slots (lw_Z below #[Value.ref b] s) i S1' S2' := by
      intro S1' S2' hs h6 H locs ls F hl
      refine lv_iinc (v := nI (i + 6)) (lv' := [(3, .int (nI (i + 6))), (0, .ref b), (1, .ref (τ1 0)), (2, .ref (τ2 0))]) hx hb dl_1140 hl (k := 3) rfl (nI_add i 6) (by decide) rfl (fun ls hl => ?_)
      refine lv_goto (tgt := 18) hx hb dl_1143 (by decide) ?_
      exact ih (i + 6) S1' S2' hs (by omega) (by omega) H locs ls F (lv_sub hl [1, 2, 3, 0] rfl)
    refine lv_iload_n hx hb dl_18 rfl (lv_at hl 3 rfl) ?_
    refine lv_aload_n hx hb dl_19 rfl (lv_at hl 0 rfl) ?_
    refine va_slen (A := fun q : Nat => s.heap.size ≤ q) hx hb hX hbl (Nat.not_le.mpr hbl) F.2.2.2.2.1 dl_20 ?_
    refine lv_bipush (v := 6) hx hb dl_21 (by decide) ?_
    refine lv_isub hx hb dl_23 ?_
    refine lv_icmp_gt (tgt := 1146) hx hb dl_24 (by decide) (fun _ => ?_) (fun q => ?_)
    · refine lv_iconst (v := 1) hx hb dl_1146 (by decide) ?_
      refine va_forget (fun q hq => F.2.2.2.2.1.2.2 q hq) ?_
      refine W.widen (k := 600000) (n := 7302250) hroom.1 hroom.2 ?_
      exact lw_ret hx hb hr hlk dl_1147
    · have h6 : i + 6 ≤ L := by
        apply Classical.byContradiction
        intro z
        exact q ((l_gt hL4 hi).mpr (by omega))
      refine lv_aload_n hx hb dl_27 rfl (lv_at hl 0 rfl) ?_
      refine lv_iload_n hx hb dl_28 rfl (lv_at hl 3 rfl) ?_
      refine va_sld (A := fun q : Nat => s.heap.size ≤ q) hx hb hX hbl (Nat.not_le.mpr hbl) F.2.2.2.2.1 (vp_in_nI (by omega) (by omega)) dl_29 ?_
      refine lv_bipush (v := 63) hx hb dl_30 (by decide) ?_
      refine lv_iand hx hb dl_32 ?_
      obtain ⟨w, hw, hwe⟩ := l_and63 (xs (nI i).toNatClampNeg)
      rw [hwe]
      have kk := fun S1' S2' hs => go S1' S2' hs h6
      match w, hw with
      | 0, _ => exact lv_tableIn (off := 151) (tgt := 184) hx hb dl_33 (by decide) (by decide) (by decide) (by decide) (l_arm0 C0 C2 hL4 h6 hroom hsim kk F hl)
      | 1, _ => exact lv_tableIn (off := 174) (tgt := 207) hx hb dl_33 (by decide) (by decide) (by decide) (by decide) (l_arm1 C0 C2 hL4 h6 hroom hsim kk F hl)
      | 2, _ => exact lv_tableIn (off := 237) (tgt := 270) hx hb dl_33 (by decide) (by decide) (by decide) (by decide) (l_arm2 C0 C2 hL4 h6 hroom hsim kk F hl)
      | 3, _ => exact lv_tableIn (off := 290) (tgt := 323) hx hb dl_33 (by decide) (by decide) (by decide) (by decide) (l_arm3 C0 C2 hL4 h6 hroom hsim kk F hl)
      | 4, _ => exact lv_tableIn (off := 353) (tgt := 386) hx hb dl_33 (by decide) (by decide) (by decide) (by decide) (l_arm4 C0 C2 hL4 h6 hroom hsim kk F hl)
      | 5, _ => exact lv_tableIn (off := 376) (tgt := 409) hx hb dl_33 (by decide) (by decide) (by decide) (by decide) (l_arm5 C0 C2 hL4 h6 hroom hsim kk F hl)
      | 6, _ => exact lv_tableIn (off := 399) (tgt := 432) hx hb dl_33 (by decide) (by decide) (by decide) (by decide) (l_arm6 C0 C2 hL4 h6 hroom hsim kk F hl)
      | 7, _ => exact lv_tableIn (off := 422) (tgt := 455) hx hb dl_33 (by decide) (by decide) (by decide) (by decide) (l_arm7 C0 C2 hL4 h6 hroom hsim kk F hl)
      | 8, _ => exact lv_tableIn (off := 445) (tgt := 478) hx hb dl_33 (by decide) (by decide) (by decide) (by decide) (l_arm8 C0 C2 hL4 h6 hroom hsim kk F hl)
      | 9, _ => exact lv_tableIn (off := 468) (tgt := 501) hx hb dl_33 (by decide) (by decide) (by decide) (by decide) (l_arm9 C0 C2 hL4 h6 hroom hsim kk F hl)
      | 10, _ => exact lv_tableIn (off := 511) (tgt := 544) hx hb dl_33 (by decide) (by decide) (by decide) (by decide) (l_arm10 C0 C2 hL4 h6 hroom hsim kk F hl)
      | 11, _ => exact lv_tableIn (off := 534) (tgt := 567) hx hb dl_33 (by decide) (by decide) (by decide) (by decide) (l_arm11 C0 C2 hL4 h6 hroom hsim kk F hl)
      | 12, _ => exact lv_tableIn (off := 557) (tgt := 590) hx hb dl_33 (by decide) (by decide) (by decide) (by decide) (l_arm12 C0 C2 hL4 h6 hroom hsim kk F hl)
      | 13, _ => exact lv_tableIn (off := 570) (tgt := 603) hx hb dl_33 (by decide) (by decide) (by decide) (by decide) (l_arm13 C0 C2 hL4 h6 hroom hsim kk F hl)
      | 14, _ => exact lv_tableIn (off := 593) (tgt := 626) hx hb dl_33 (by decide) (by decide) (by decide) (by decide) (l_arm14 C0 C2 hL4 h6 hroom hsim kk F hl)
      | 15, _ => exact lv_tableIn (off := 616) (tgt := 649) hx hb dl_33 (by decide) (by decide) (by decide) (by decide) (l_arm15 C0 C2 hL4 h6 hroom hsim kk F hl)
      | 16, _ => exact lv_tableIn (off := 640) (tgt := 673) hx hb dl_33 (by decide) (by decide) (by decide) (by decide) (l_arm16 C0 C2 hL4 h6 hroom hsim kk F hl)
      | 17, _ => exact lv_tableIn (off := 673) (tgt := 706) hx hb dl_33 (by decide) (by decide) (by decide) (by decide) (l_arm17 C0 C2 hL4 h6 hroom hsim kk F hl)
      | 18, _ => exact lv_tableIn (off := 696) (tgt := 729) hx hb dl_33 (by decide) (by decide) (by decide) (by decide) (l_arm18 C0 C2 hL4 h6 hroom hsim kk F hl)
      | 19, _ => exact lv_tableIn (off := 720) (tgt := 753) hx hb dl_33 (by decide) (by decide) (by decide) (by decide) (l_arm19 C0 C2 hL4 h6 hroom hsim kk F hl)
      | 20, _ => exact lv_tableIn (off := 754) (tgt := 787) hx hb dl_33 (by decide) (by decide) (by decide) (by decide) (l_arm20 C0 C2 hL4 h6 hroom hsim kk F hl)
      | 21, _ => exact lv_tableIn (off := 777) (tgt := 810) hx hb dl_33 (by decide) (by decide) (by decide) (by decide) (l_arm21 C0 C2 hL4 h6 hroom hsim kk F hl)
      | 22, _ => exact lv_tableIn (off := 800) (tgt := 833) hx hb dl_33 (by decide) (by decide) (by decide) (by decide) (l_arm22 C0 C2 hL4 h6 hroom hsim kk F hl)
      | 23, _ => exact lv_tableIn (off := 823) (tgt := 856) hx hb dl_33 (by decide) (by decide) (by decide) (by decide) (l_arm23 C0 C2 hL4 h6 hroom hsim kk F hl)
      | 24, _ => exact lv_tableIn (off := 857) (tgt := 890) hx hb dl_33 (by decide) (by decide) (by decide) (by decide) (l_arm24 C0 C2 hL4 h6 hroom hsim kk F hl)
      | 25, _ => exact lv_tableIn (off := 880) (tgt := 913) hx hb dl_33 (by decide) (by decide) (by decide) (by decide) (l_arm25 C0 C2 hL4 h6 hroom hsim kk F hl)
      | 26, _ => exact lv_tableIn (off := 913) (tgt := 946) hx hb dl_33 (by decide) (by decide) (by decide) (by decide) (l_arm26 C0 C2 hL4 h6 hroom hsim kk F hl)
      | 27, _ => exact lv_tableIn (off := 946) (tgt := 979) hx hb dl_33 (by decide) (by decide) (by decide) (by decide) (l_arm27 C0 C2 hL4 h6 hroom hsim kk F hl)
      | 28, _ => exact lv_tableIn (off := 959) (tgt := 992) hx hb dl_33 (by decide) (by decide) (by decide) (by decide) (l_arm28 C0 C2 hL4 h6 hroom hsim kk F hl)
      | 29, _ => exact lv_tableIn (off := 982) (tgt := 1015) hx hb dl_33 (by decide) (by decide) (by decide) (by decide) (l_arm29 C0 C2 hL4 h6 hroom hsim kk F hl)
      | 30, _ => exact lv_tableIn (off := 995) (tgt := 1028) hx hb dl_33 (by decide) (by decide) (by decide) (by decide) (l_arm30 C0 C2 hL4 h6 hroom hsim kk F hl)
      | 31, _ => exact lv_tableIn (off := 1028) (tgt := 1061) hx hb dl_33 (by decide) (by decide) (by decide) (by decide) (l_arm31 C0 C2 hL4 h6 hroom hsim kk F hl)
      | 32, _ => exact lv_tableIn (off := 1061) (tgt := 1094) hx hb dl_33 (by decide) (by decide) (by decide) (by decide) (l_arm32 C0 C2 hL4 h6 hroom hsim kk F hl)
      | 33, _ => exact lv_tableIn (off := 1074) (tgt := 1107) hx hb dl_33 (by decide) (by decide) (by decide) (by decide) (l_arm33 C0 C2 hL4 h6 hroom hsim kk F hl)
      | w + 34, hw =>
        have ht := l_toInt (w + 34) hw
        refine lv_tableOut (tgt := 1140) hx hb dl_33 (Or.inr (by rw [ht]; omega)) (by decide) ?_
        exact go S1 S2 (jSim_mono n S1 S2 hsim) h6 H locs ls F hl
end LOOP
/-- a store with one cell, of a class -/
def jS1 (ci n : Nat) : jS := ([(ci, n)], fun _ _ => 0, fun _ _ => 0, fun _ _ => none)
section BEGIN0
variable {p : Program} {l : Launch} {e : Env} {s : State} {m : MethodId} {below : List Frame} {meth : Method} {c : Code} {b L : Nat} {xs : Nat → Int32} {H : Heap} {locs : List Loc} {cells slots : Nat} {Q : State → Prop}
variable {dC : Nat → ClassId} {dI : Nat → Nat → Nat} {dA : Nat → ClassId} {τ : Nat → Nat} {A : Nat → Prop}
/-- new, dup, <init> -/
theorem l_new (C0 : lw_At p s m meth c b L xs) (hfx : jFx dC dI dA τ A s s.heap) (hτ : ∀ i, i < 1000 → τ i = τ 0 + i) (hH : H.size = τ 0) (hA : ∀ q, H.size ≤ q ↔ A q) (hS : va_S (fun q : Nat => s.heap.size ≤ q) s.heap H locs) {pc ix1 ix2 w1 w2 ci k n : Nat} {Cn : String} {T : u_T} (hc : vwCl[ci]? = some (Cn, T, n)) (hd1 : decode code pc = .ok (.new ix1, 3)) (hd2 : decode code (pc + 3) = .ok (.dup, 1)) (hd3 : decode code (pc + 3 + 1) = .ok (.invokespecial ix2, 3)) (hw1 : j_w w1 (.classLink RLn ix1 Cn) = true) (hw2 : j_w w2 (.methodLink RLn ix2 (jY k).1) = true) (hk : k < jYL.length) (hnm : (jY k).1.name = "<init>") (hk0 : (jpos.getD k []).getD 4 9 = 2) (hnp : j_np (jY k).1 0 = true) {S' : jS} (hev : jev jTT jMM 1900 k 0 (j_ent (jMM k).2 [.ref 0]) [] (jS1 ci n) = some (none, S')) (hfit : Nat.ble 1 (jMM k).2 = true) (hlen : 1 ≤ S'.1.length) (hsl : n ≤ jsz S'.1) (hr1 : cells + S'.1.length ≤ room_1.cells) (hr2 : slots + jsz S'.1 ≤ room_1.slots) {ls : Array Slot} (hls : ls.size = 4)
    (kk : ∀ (H1 : Heap) (locs1 : List Loc), va_P (dC, dI) vwCl (jws dA τ S') H1 → va_D A (jws dA τ S') → va_S (fun q : Nat => s.heap.size ≤ q) s.heap H1 locs1 → (∀ q : Nat, q < H.size → H1[q]? = H[q]?) → H1.size = H.size + S'.1.length → W p l e room_1 s m #[Value.ref b] below meth c H1 locs1 (cells + S'.1.length) (slots + jsz S'.1) Q (F0 m (pc + 3 + 1 + 3) ls [.ref (τ 0)])) : W p l e room_1 s m #[Value.ref b] below meth c H locs cells slots Q (F0 m pc ls []) := by
  obtain ⟨hx, hb, hr, hml, hown, hts, hX, hbl, hlk, hgv⟩ := C0
  have hg : ∀ w ∈ jgood, w.before #[Value.ref b] s = true := fun w hw => hts w (jgood_in w hw)
  have hown : s.vm.findClass RLn = some m.cls := hown
  obtain ⟨c1, c2, c3, c4, c5, ty, c6, c7⟩ := jCl_of ci Cn T n hc
  have hKn := (j_ty hfx).1 ci _ hc
  refine W.newcK hx hb hown (hg _ (j_w_good hw1 rfl)) (hg _ c2) (hg _ c3) rfl hd1 (by omega) (by omega) hKn.2.1 hH (fun H1 kC hkC e1 z1 o1 => ?_)
  rw [← hH] at e1 z1 o1
  refine W.eq (g2 := F0 m (pc + 3) ls [.ref (τ 0)]) (by rw [← hH]) ?_
  refine lv_dup hx hb hd2 rfl ?_
  have hP : va_P (dC, dI) vwCl (jws dA τ (jS1 ci n)) H1 := by
    intro j q hq
    rw [jws_get] at hq
    by_cases hj : j < 1
    · rw [if_pos (show j < (jS1 ci n).1.length from hj)] at hq
      cases hq
      rw [show j = 0 by omega, ← hH]
      show va_at _ _ (H.size, jcell dA τ (jS1 ci n) 0 (ci, n)) H1
      simp only [jcell, c5, if_true]
      refine ⟨_, hc, (u_born ty hg c1 hKn hkC e1 c6).to (fun j hj => ?_)⟩
      have h8 := c7 j hj
      simp only [vp_V, List.getD_eq_getElem?_getD, List.getElem?_map, List.getElem?_range hj, Option.map_some, Option.getD_some, jfv, jS1]
      simp only [tcOk] at h8
      split at h8
      · next q => rw [decide_eq_true_eq] at h8; rw [q, h8]; rfl
      · next q => rw [decide_eq_true_eq] at h8; rw [q, h8]; rfl
      · next q => rw [decide_eq_true_eq] at h8; rw [q, h8]; rfl
      · next q =>
        rw [q]
        cases hty : ty j <;> rw [hty] at h8 <;> first | rfl | (simp [refKind] at h8)
      · cases h8
    · rw [if_neg (show ¬ j < (jS1 ci n).1.length from hj)] at hq
      cases hq
  have hD : va_D A (jws dA τ (jS1 ci n)) := by
    refine ⟨fun i j p q hi hj _ => ?_, fun j q hq => ?_⟩
    · have h1 : i < 1 := by have := (List.getElem?_eq_some_iff.mp hi).1; rw [jws_length] at this; exact this
      have h2 : j < 1 := by have := (List.getElem?_eq_some_iff.mp hj).1; rw [jws_length] at this; exact this
      omega
    · have h1 : j < 1 := by have := (List.getElem?_eq_some_iff.mp hq).1; rw [jws_length] at this; exact this
      rw [jws_get, if_pos (show j < (jS1 ci n).1.length from h1)] at hq
      cases hq
      rw [show j = 0 by omega, ← hH]
      exact (hA _).mp (Nat.le_refl _)
  have hS1 : va_S (fun q : Nat => s.heap.size ≤ q) s.heap H1 locs := ⟨Nat.le_trans hS.1 (by omega), fun x g1 g2 => (o1 x (Nat.lt_of_lt_of_le g1 hS.1)).trans (hS.2.1 x g1 g2), hS.2.2⟩
  have hM := j_contract jAll_holds dC dI dA (jStr_holds l τ A) (as := [.ref 0]) hfit hev
  obtain ⟨m1, m2, m3, m4, m5, m6, m7, m8, m9, m10⟩ := okM_of (jAll_holds.1 k hk)
  have hti : jTi τ (jS1 ci n).1.length H1 := ⟨by rw [z1, hH]; rfl, hτ⟩
  have hpc : ∀ U : State, U.heap = H1 → s.WarmedH U.vm → jPc dC dI dA τ A [.ref 0] (jS1 ci n) S' (([.ref 0] : List Value).map (tv τ)).toArray U := by
    intro U hU hW
    refine ⟨rfl, ?_⟩
    dsimp only
    rw [hU]
    exact ⟨hP, hD, (hfx.warm hW).kept (fun a h1 h2 => hS1.2.1 a h1 (fun z => absurd z (Nat.not_le.mpr h1))), fun q hq => (hA q).mp (by omega), fun _ => hti, Nat.one_pos, Nat.le_of_ble_eq_true rfl⟩
  have hcb := callB_of (bytes := (jY k).2.1) (maxL := (jY k).2.2.1) (ret := (jY k).2.2.2) (R := room_1) (rm := jrm 1900 (jS1 ci n) S') 0 hg (show GoodIn jgood (jwk k) from j_good_cons m1) rfl rfl rfl (hg _ m2) (hg _ (j_w_good hw2 rfl)) ⟨m4, m5, by simpa [j_np] using hnp⟩ (l_rm m6)
  rw [j_okR k hnm] at hcb
  have e1' : cells + 1 + (S'.1.length - (jS1 ci n).1.length) = cells + S'.1.length := by show cells + 1 + (S'.1.length - 1) = _; omega
  have e2' : slots + n + (jsz S'.1 - jsz (jS1 ci n).1) = slots + jsz S'.1 := by rw [show jsz (jS1 ci n).1 = n by simp [jsz, jS1]]; omega
  have hrun := va_runI (p := p) (e := e) (m := m) (below := below) (meth := meth) (c := c) (locs := locs) (cells := cells + 1) (slots := slots + n) (R := room_1) (H := H1) (b := τ 0) (As := []) (n := 0) (rest := [.ref (τ 0)]) (g := F0 m (pc + 3 + 1) ls [.ref (τ 0), .ref (τ 0)]) ⟨hx, hb, hml, hown, hg⟩ hM ⟨hcb, hnm, hg _ (m10 hk0)⟩ ⟨jPc_blind, hpc⟩ rfl rfl hls rfl (lv_room (Nat.le_of_ble_eq_true rfl)) hd3 ⟨by rw [e1']; exact hr1, by rw [e2']; exact hr2⟩
  have hA0 : ∀ q, A q → s.heap.size ≤ q := fun q hq => Nat.le_trans hS.1 ((hA q).mpr hq)
  refine l_called hrun hA0 hS1 (fun H2 locs2 hP2 hD2 hS2 hsz hk2 ht2 => ?_)
  rw [e1', e2']
  refine kk H2 locs2 hP2 hD2 hS2 (fun q hq => ?_) ?_
  · rw [hk2 q (by omega) (fun z => absurd ((hA q).mpr z) (Nat.not_le.mpr hq)), o1 q hq]
  · have := (ht2 hti).1
    rw [this, hH]
end BEGIN0
set_option maxRecDepth 100000 in
theorem l_sizes : jsz shC = 150016 ∧ jsz shR = 281382 := by decide +kernel
set_option maxHeartbeats 2000000 in
theorem whole_of {N : Nat} (hN : N ≤ 384) (n : Nat) (hn : N ≤ 6 * n + 5) {SX SM : jS} (hX0 : jev jTT jMM 1900 167 0 (j_ent (jMM 167).2 [.ref 0]) [] (jS1 11 20) = some (none, SX)) (hM0 : jev jTT jMM 1900 213 0 (j_ent (jMM 213).2 [.ref 0]) [] (jS1 12 128) = some (none, SM)) (hXs : SX.1 = shC) (hMs : SM.1 = shR) (hsim : jSim n SX SM) {p : Program} {e : Env} {s : State} {m : MethodId} {below : List Frame} {meth : Method} {c : Code} (l : Launch) {b L : Nat} {xs : Nat → Int32} (hL : L ≤ N) (C0 : lw_At p s m meth c b L xs) : W p l e room_1 s m #[Value.ref b] below meth c s.heap [] 0 0 (lw_Z below #[Value.ref b] s) (entryFrame m ([Value.ref b] : List Value).toArray 4) := by
  obtain ⟨hx, hb, hr, hml, hown, hts, hX, hbl, hlk, hgv⟩ := id C0
  have hs : ∀ w ∈ jfl, w.before #[Value.ref b] s = true := flat_of_before _ hgv
  have hA : ∀ a : Nat, a < s.heap.size → ¬ (fun q : Nat => s.heap.size ≤ q) a := fun a h => Nat.not_le.mpr h
  obtain ⟨ta, h1⟩ := st_stat hs hts hA
  obtain ⟨tk, tw, h2⟩ := st_txt hs hts hA
  have h3 := st_cmp hs hts hA
  obtain ⟨dC, dI, dA, hK⟩ := st_K hts
  have fx := st_fix (b := b) hK hs hts h1 h2 h3
  generalize hb0 : s.heap.size = b0 at fx
  have e1 : ∀ i, i < 1000 → lτ b0 ta tk tw i = b0 + i := fun i hi => lτ0 b0 ta tk tw hi
  have e2 : ∀ i, i < 1000 → lτ (b0 + 121) ta tk tw i = b0 + 121 + i := fun i hi => lτ0 (b0 + 121) ta tk tw hi
  have f1 := fx b0
  have f2 := (fx (b0 + 121)).narrow (B := fun q => b0 + 121 ≤ q) (fun q hq => by have : b0 + 121 ≤ q := hq; show b0 ≤ q; omega)
  have g1 := f1.narrow (B := fun q => (b0 ≤ q ∧ q < b0 + 121) ∨ b0 + 199 ≤ q) (fun q hq => by have : (b0 ≤ q ∧ q < b0 + 121) ∨ b0 + 199 ≤ q := hq; show b0 ≤ q; omega)
  have g2 := (fx (b0 + 121)).narrow (B := fun q => (b0 + 121 ≤ q ∧ q < b0 + 199) ∨ b0 + 199 ≤ q) (fun q hq => by have : (b0 + 121 ≤ q ∧ q < b0 + 199) ∨ b0 + 199 ≤ q := hq; show b0 ≤ q; omega)
  generalize lτ b0 ta tk tw = τ1 at e1 f1 g1
  generalize lτ (b0 + 121) ta tk tw = τ2 at e2 f2 g2
  have z1 : τ1 0 = b0 := e1 0 (by decide)
  have z2 : τ2 0 = b0 + 121 := e2 0 (by decide)
  have lX : SX.1.length = 121 := by rw [hXs]; exact shC_len.1
  have lM : SM.1.length = 78 := by rw [hMs]; exact shR_len.1
  have jX : jsz SX.1 = 150016 := by rw [hXs]; exact l_sizes.1
  have jM : jsz SM.1 = 281382 := by rw [hMs]; exact l_sizes.2
  have hl := lv_entry ([.ref b]) (n := 4) (Nat.le_of_ble_eq_true rfl)
  rw [lg_entry_eq]
  generalize (lg_sl ([.ref b]) ++ List.replicate (4 - (lg_sl ([.ref b])).length) Slot.unset).toArray = ls at hl ⊢
  have hl : lv_has ls 4 [(0, .ref b)] := hl
  refine l_new C0 f1 (fun i hi => by rw [e1 i hi, z1]) (by rw [z1]; exact hb0) (fun q => by rw [hb0]) va_S.rf (ci := 11) (w1 := 226) (w2 := 228) (k := 167) rfl dl_0 dl_3 dl_4 (by decide +kernel) (by decide +kernel) (by rw [j_len]; decide) rfl rfl (by decide +kernel) hX0 rfl (by omega) (by omega) (by rw [lX]; decide) (by rw [jX]; decide) hl.1 (fun H1 locs1 hP1 hD1 hS1 hk1 hz1 => ?_)
  rw [lX, jX]
  rw [hb0, lX] at hz1
  refine lv_astore_n (lv' := [(1, .ref (τ1 0)), (0, .ref b)]) hx hb dl_7 rfl hl (by decide) rfl (fun ls hl => ?_)
  refine l_new C0 f2 (fun i hi => by rw [e2 i hi, z2]) (by rw [z2]; exact hz1) (fun q => by rw [hz1]) hS1 (ci := 12) (w1 := 1863) (w2 := 1865) (k := 213) rfl dl_8 dl_11 dl_12 (by decide +kernel) (by decide +kernel) (by rw [j_len]; decide) rfl rfl (by decide +kernel) hM0 rfl (by omega) (by omega) (by rw [lM]; decide) (by rw [jM]; decide) hl.1 (fun H2 locs2 hP2 hD2 hS2 hk2 hz2 => ?_)
  rw [lM, jM]
  rw [hz1, lM] at hz2
  refine lv_astore_n (lv' := [(2, .ref (τ2 0)), (1, .ref (τ1 0)), (0, .ref b)]) hx hb dl_15 rfl hl (by decide) rfl (fun ls hl => ?_)
  refine lv_iconst (v := 0) hx hb dl_16 (by decide) ?_
  refine lv_istore_n (lv' := [(3, .int 0), (2, .ref (τ2 0)), (1, .ref (τ1 0)), (0, .ref b)]) hx hb dl_17 rfl hl (by decide) rfl (fun ls hl => ?_)
  have hP1' : va_P (dC, dI) vwCl (jws dA τ1 SX) H2 := jws_kept hP1 (fun i hi => hk2 _ (by rw [hz1, e1 i (by omega)]; omega))
  have dd : ∀ {τ : Nat → Nat} {S : jS} {A B : Nat → Prop}, va_D A (jws dA τ S) → (∀ i, i < S.1.length → B (τ i)) → va_D B (jws dA τ S) := by
    intro τ S A B h hB
    refine ⟨h.1, fun k q hq => ?_⟩
    rw [jws_get] at hq
    by_cases hk : k < S.1.length
    · rw [if_pos hk] at hq; cases hq; exact hB k hk
    · rw [if_neg hk] at hq; cases hq
  refine law_loop (A1 := fun q => (b0 ≤ q ∧ q < b0 + 121) ∨ b0 + 199 ≤ q) (A2 := fun q => (b0 + 121 ≤ q ∧ q < b0 + 199) ∨ b0 + 199 ≤ q) (sz := b0 + 199) C0 ⟨g1, g2, fun q hq => by rw [hb0]; omega, fun q hq => by rw [hb0]; omega, fun q hq => Or.inr hq, fun q hq => Or.inr hq, fun i hi => ⟨fun z => by rw [e2 i (by omega)] at z; omega, by rw [e2 i (by omega)]; omega⟩, fun i hi => ⟨fun z => by rw [e1 i (by omega)] at z; omega, by rw [e1 i (by omega)]; omega⟩⟩ (Nat.le_trans hL hN) ⟨by decide, by decide⟩ n 0 SX SM hsim (by omega) (by omega) H2 locs2 ls ⟨hP1', dd hD1 (fun i hi => Or.inl (by rw [e1 i (by omega)]; omega)), hP2, dd hD2 (fun i hi => Or.inl (by rw [e2 i (by omega)]; omega)), hS2, by omega, hXs, hMs⟩ (lv_sub hl [3, 2, 1, 0] rfl)
