/-! PLATES: findPlace of the reference -/
def MAXK : Nat := 9223372036854775807
section NEST6
variable {d e : Nat} {L L' : Nat → Nat → Int64} {pa pb pu pw : Option Nat} {K : Option Value → jS → jO} {w h W H : Nat} {v : Nat → Int32} {nr : Nat → Nat → Nat → Prop}
/-- the best place by the turns below t -/
def bestP (w h : Nat) (nr : Nat → Nat → Nat → Prop) (pl : Nat → Nat → Prop) (W H t b : Nat) : Prop := (b = MAXK ∧ ∀ s y x t', s < 6 → y < h → x < w → t' < t → ¬ fitP w h nr pl W H s x y t') ∨ ∃ s y x t', s < 6 ∧ y < h ∧ x < w ∧ t' < t ∧ fitP w h nr pl W H s x y t' ∧ b = kyN s y x t' ∧ ∀ s'' y'' x'' t'', s'' < 6 → y'' < h → x'' < w → t'' < t → fitP w h nr pl W H s'' x'' y'' t'' → kyN s y x t' ≤ kyN s'' y'' x'' t''
theorem best_lt {t b : Nat} (ht : t ≤ 4) (hw : w ≤ 64) (hh : h ≤ 48) (B : bestP w h nr (plV v) W H t b) : b ≤ MAXK := by
  rcases B with ⟨rfl, -⟩ | ⟨s, y, x, t', a1, a2, a3, a4, -, rfl, -⟩
  · exact Nat.le_refl _
  · unfold kyN MAXK
    omega
theorem find_t {J0 J : Nat → Nat → Int32} (G : plIn (plV v) W H) (hr : rCst J0) {k p t T b : Nat} (hk : k < 8) (hv : ∀ j, j < 12 → J0 6 (600 + k * 14 + j) = v j) (hB : barR nr J0) (e4 : J0 6 4 = nI w) (e5 : J0 6 5 = nI h) (hw : w ≤ 64) (hh : h ≤ 48) (htT : t < T) (hT : T ≤ 4) (f : frT J0 J) (B : bestP w h nr (plV v) W H t b) (o7 o8 : Option Value) : ∃ b' J', frT J0 J' ∧ bestP w h nr (plV v) W H (t + 1) b' ∧ ∃ z7 z8 : Option Value, jv (e + 3) 335 39 [some (.ref 0), some (.int (nI p)), some (.int (nI k)), some (.int (nI T)), some (.long (lgN b)), none, some (.int (nI t)), o7, o8] [] (shR, J, L', pR) = jv (e + 3) 335 39 [some (.ref 0), some (.int (nI p)), some (.int (nI k)), some (.int (nI T)), some (.long (lgN b')), none, some (.int (nI (t + 1))), z7, z8] [] (shR, J', L', pR) := by
  have hr1 : rCst J := rCst_eq1 hr (fun c hc h6 => f.1 c hc (by omega) (by omega))
  obtain ⟨J1, f1, C1, k1⟩ := tn_all (e := e + 1) (L' := L') (t := t) G hr1 hk (by omega) (fun j hj => by rw [f.1 6 (by decide) (by decide) (by decide), hv j hj])
  have f2 := f.tr f1
  have hr2 : rCst J1 := rCst_eq1 hr (fun c hc h6 => f2.1 c hc (by omega) (by omega))
  have B1 : barR nr J1 := by
    unfold barR
    rw [f2.1 54 (by decide) (by decide) (by decide)]
    exact hB
  have g4 : J1 6 4 = nI w := by rw [f2.1 6 (by decide) (by decide) (by decide), e4]
  have g5 : J1 6 5 = nI h := by rw [f2.1 6 (by decide) (by decide) (by decide), e5]
  have hb := best_lt (t := t) (by omega) hw hh B
  have go : ∀ r : Nat, r ≤ MAXK → jv (e + 2) 336 0 [some (.ref 0), some (.int (nI t)), none, none, none] [] (shR, J1, L', pR) = some (some (.long (lgN r)), (shR, J1, L', pR)) → jv (e + 3) 335 39 [some (.ref 0), some (.int (nI p)), some (.int (nI k)), some (.int (nI T)), some (.long (lgN b)), none, some (.int (nI t)), o7, o8] [] (shR, J, L', pR) = jv (e + 3) 335 39 [some (.ref 0), some (.int (nI p)), some (.int (nI k)), some (.int (nI T)), some (.long (lgN (if r < b then r else b))), none, some (.int (nI (t + 1))), some (.long (lgN r)), none] [] (shR, J1, L', pR) := fun r hr k2 => by
    unfold MAXK at hb hr
    rw [B335_39, if_pos (nI_lt htT (by omega)), jgo_some (d := e + 2) rfl k1]
    dsimp only [Option.toList_none, List.nil_append]
    rw [B335_52, jgo_some (d := e + 2) rfl k2]
    dsimp only [Option.toList_some, List.cons_append, List.nil_append]
    rw [B335_58]
    by_cases q : r < b
    · rw [if_pos ((lcmp_lt (by omega) (by omega)).mpr q), B335_75, if_pos q, nI_1 t]
    · rw [if_neg (fun z => q ((lcmp_lt (by omega) (by omega)).mp z)), B335_75, if_neg q, nI_1 t]
  have st : jv (e + 2) 336 0 [some (.ref 0), some (.int (nI t)), none, none, none] [] (shR, J1, L', pR) = jv (e + 2) 336 2 [some (.ref 0), some (.int (nI t)), some (.int (nI 0)), none, none] [] (shR, J1, L', pR) := by
    rw [B336_0]
    rfl
  rcases fp_s (e := e) (L' := L') G C1 B1 hr2 g4 g5 hw hh (by omega) 6 0 (by omega) none none with ⟨s, y, x, -, a2, a3, a4, a5, a6, a7⟩ | ⟨a1, a2⟩
  · have hky : kyN s y x t ≤ MAXK := by unfold kyN MAXK; omega
    refine ⟨if kyN s y x t < b then kyN s y x t else b, J1, f2, ?_, _, _, go _ hky (st.trans a7)⟩
    by_cases q : kyN s y x t < b
    · rw [if_pos q]
      right
      refine ⟨s, y, x, t, a2, a3, a4, by omega, a5, rfl, fun s'' y'' x'' t'' c1 c2 c3 c4 c5 => ?_⟩
      by_cases z : t'' = t
      · subst z
        exact a6 s'' y'' x'' (Nat.zero_le _) c1 c2 c3 c5
      · rcases B with ⟨d1, d2⟩ | ⟨s', y', x', t', d1, d2, d3, d4, d5, d6, d7⟩
        · exact absurd c5 (d2 s'' y'' x'' t'' c1 c2 c3 (by omega))
        · have := d7 s'' y'' x'' t'' c1 c2 c3 (by omega) c5
          omega
    · rw [if_neg q]
      rcases B with ⟨d1, d2⟩ | ⟨s', y', x', t', d1, d2, d3, d4, d5, d6, d7⟩
      · rw [d1] at q
        unfold kyN MAXK at q
        omega
      · right
        refine ⟨s', y', x', t', d1, d2, d3, by omega, d5, d6, fun s'' y'' x'' t'' c1 c2 c3 c4 c5 => ?_⟩
        by_cases z : t'' = t
        · subst z
          have := a6 s'' y'' x'' (Nat.zero_le _) c1 c2 c3 c5
          omega
        · exact d7 s'' y'' x'' t'' c1 c2 c3 (by omega) c5
  · refine ⟨if MAXK < b then MAXK else b, J1, f2, ?_, _, _, go MAXK (Nat.le_refl _) (st.trans a2)⟩
    rw [if_neg (by omega)]
    rcases B with ⟨d1, d2⟩ | ⟨s', y', x', t', d1, d2, d3, d4, d5, d6, d7⟩
    · left
      refine ⟨d1, fun s y x t' c1 c2 c3 c4 => ?_⟩
      by_cases z : t' = t
      · subst z
        exact a1 s y x (Nat.zero_le _) c1 c2 c3
      · exact d2 s y x t' c1 c2 c3 (by omega)
    · right
      refine ⟨s', y', x', t', d1, d2, d3, by omega, d5, d6, fun s'' y'' x'' t'' c1 c2 c3 c4 c5 => ?_⟩
      by_cases z : t'' = t
      · subst z
        exact absurd c5 (a1 s'' y'' x'' (Nat.zero_le _) c1 c2 c3)
      · exact d7 s'' y'' x'' t'' c1 c2 c3 (by omega) c5
/-- the piece p at its place -/
def atJ (J : Nat → Nat → Int32) (p s x y t : Nat) : Nat → Nat → Int32 := j_up (j_up (j_up (j_up J 52 p (nI t)) 50 p (nI x)) 51 p (nI y)) 49 p (nI s)
theorem find_r {J : Nat → Nat → Int32} (G : plIn (plV v) W H) (hr : rCst J) {k p T : Nat} (hk : k < 8) (hp : p < 32) (hJ : J 48 p = nI k) (hv : ∀ j, j < 12 → J 6 (600 + k * 14 + j) = v j) (hB : barR nr J) (e4 : J 6 4 = nI w) (e5 : J 6 5 = nI h) (hw : w ≤ 64) (hh : h ≤ 48) (hT : T = if J 6 (600 + k * 14 + 13) = 1 then 4 else 1) : ∃ J', frT J J' ∧ ((∀ s y x t', s < 6 → y < h → x < w → t' < T → ¬ fitP w h nr (plV v) W H s x y t') ∧ jv (e + 3) 335 0 [some (.ref 0), some (.int (nI p)), none, none, none, none, none, none, none] [] (shR, J, L', pR) = some (none, (shR, J', L', pR)) ∨ ∃ s y x t', s < 6 ∧ y < h ∧ x < w ∧ t' < T ∧ fitP w h nr (plV v) W H s x y t' ∧ (∀ s'' y'' x'' t'', s'' < 6 → y'' < h → x'' < w → t'' < T → fitP w h nr (plV v) W H s'' x'' y'' t'' → kyN s y x t' ≤ kyN s'' y'' x'' t'') ∧ jv (e + 3) 335 0 [some (.ref 0), some (.int (nI p)), none, none, none, none, none, none, none] [] (shR, J, L', pR) = some (none, (shR, atJ J' p s x y t', L', pR))) := by
  have hT4 : T ≤ 4 := by rw [hT]; split <;> omega
  have jp : j_in (nI p) 32 = true := j_in_nI hp (by decide)
  have st : jv (e + 3) 335 0 [some (.ref 0), some (.int (nI p)), none, none, none, none, none, none, none] [] (shR, J, L', pR) = jv (e + 3) 335 39 [some (.ref 0), some (.int (nI p)), some (.int (nI k)), some (.int (nI T)), some (.long (lgN MAXK)), none, some (.int (nI 0)), none, none] [] (shR, J, L', pR) := by
    rw [B335_0, if_pos jp, nI_clamp (n := p) (by omega), hJ, show (13 : Int32) = nI 13 from rfl, g_plt_r hr]
    dsimp only [Option.toList_some, List.cons_append, List.nil_append]
    rw [B335_20, if_pos (j_in_nI (by omega) (by decide)), nI_clamp (n := 600 + k * 14 + 13) (by omega), hT]
    by_cases q : J 6 (600 + k * 14 + 13) = 1
    · rw [if_pos q, if_pos q, B335_30]
      rfl
    · rw [if_neg q, if_neg q, B335_30]
      rfl
  obtain ⟨⟨b, J', o7, o8⟩, ⟨f, B⟩, h4⟩ := j_runP (fun t (q : Nat × (Nat → Nat → Int32) × Option Value × Option Value) => jv (e + 3) 335 39 [some (.ref 0), some (.int (nI p)), some (.int (nI k)), some (.int (nI T)), some (.long (lgN q.1)), none, some (.int (nI t)), q.2.2.1, q.2.2.2] [] (shR, q.2.1, L', pR)) (fun t q => frT J q.2.1 ∧ bestP w h nr (plV v) W H t q.1) T (fun t ht q hq => by
    obtain ⟨b', J', a1, a2, z7, z8, a3⟩ := find_t (e := e) (L' := L') (p := p) G hr hk hv hB e4 e5 hw hh ht hT4 hq.1 hq.2 q.2.2.1 q.2.2.2
    exact ⟨(b', J', z7, z8), ⟨a1, a2⟩, a3⟩) (MAXK, J, none, none) ⟨⟨fun _ _ _ _ => rfl, fun _ _ => rfl⟩, Or.inl ⟨rfl, fun s y x t' _ _ _ q => absurd q (Nat.not_lt_zero _)⟩⟩
  dsimp only at f B h4
  refine ⟨J', f, ?_⟩
  rcases B with ⟨d1, d2⟩ | ⟨s, y, x, t', d1, d2, d3, d4, d5, d6, d7⟩
  · left
    refine ⟨d2, st.trans (h4.trans ?_)⟩
    rw [d1, B335_39, if_neg (nI_nlt (Nat.le_refl _) (by omega)), if_neg (show ¬ lg_cmp (lgN MAXK) 9223372036854775807 < 0 by decide), B335_152]
  · right
    refine ⟨s, y, x, t', d1, d2, d3, d4, d5, d7, st.trans (h4.trans ?_)⟩
    have kb : kyN s y x t' < 98304 := by unfold kyN; omega
    have k0 : lg_cmp (lgN (kyN s y x t')) 9223372036854775807 < 0 := (lcmp_lt (b := 9223372036854775807) (by omega) (by decide)).mpr (by omega)
    have m4 : (lgN (kyN s y x t') - lgN (kyN s y x t') / 4 * 4).toInt32 = nI t' := by
      rw [show lgN (kyN s y x t') - lgN (kyN s y x t') / 4 * 4 = lgN (kyN s y x t' % 4) from lgN_mod (b := 4) (by omega) (by decide), lgN_i (by omega)]
      congr 1
      unfold kyN
      omega
    have q4 : lgN (kyN s y x t') / 4 = lgN (kyN s y x t' / 4) := lgN_div (b := 4) (by omega) (by decide)
    have q256 : lgN (kyN s y x t') / 256 = lgN (kyN s y x t' / 256) := lgN_div (b := 256) (by omega) (by decide)
    have qs : (lgN (kyN s y x t') / 16384).toInt32 = nI s := by
      rw [show lgN (kyN s y x t') / 16384 = lgN (kyN s y x t' / 16384) from lgN_div (b := 16384) (by omega) (by decide), lgN_i (by omega)]
      congr 1
      unfold kyN
      omega
    have mx : (lgN (kyN s y x t' / 4) - lgN (kyN s y x t' / 4) / 64 * 64).toInt32 = nI x := by
      rw [show lgN (kyN s y x t' / 4) - lgN (kyN s y x t' / 4) / 64 * 64 = lgN (kyN s y x t' / 4 % 64) from lgN_mod (b := 64) (by omega) (by decide), lgN_i (by omega)]
      congr 1
      unfold kyN
      omega
    have my : (lgN (kyN s y x t' / 256) - lgN (kyN s y x t' / 256) / 64 * 64).toInt32 = nI y := by
      rw [show lgN (kyN s y x t' / 256) - lgN (kyN s y x t' / 256) / 64 * 64 = lgN (kyN s y x t' / 256 % 64) from lgN_mod (b := 64) (by omega) (by decide), lgN_i (by omega)]
      congr 1
      unfold kyN
      omega
    rw [d6, B335_39, if_neg (nI_nlt (Nat.le_refl _) (by omega)), if_pos k0, if_neg (by decide), if_pos jp, if_neg (by decide), if_neg (by decide), if_pos jp, if_neg (by decide), if_neg (by decide), if_pos jp, if_neg (by decide), if_pos jp, B335_152, m4, q4, mx, q256, my, qs, nI_clamp (n := p) (by omega)]
    rfl
end NEST6
