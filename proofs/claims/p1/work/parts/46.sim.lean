/-! ONE CALL on fresh objects is answered alike -/
theorem len0 {l : List Int32} (h : l.length = 0) : l = [] := List.length_eq_zero_iff.mp h
theorem len1 {l : List Int32} (h : l.length = 1) : ∃ a, l = [a] := by
  rcases l with _ | ⟨a, _ | ⟨b, l⟩⟩ <;> first | exact ⟨_, rfl⟩ | (exfalso; simp only [List.length_cons, List.length_nil] at h; omega)
theorem len2 {l : List Int32} (h : l.length = 2) : ∃ a b, l = [a, b] := by
  rcases l with _ | ⟨a, _ | ⟨b, _ | ⟨c, l⟩⟩⟩ <;> first | exact ⟨_, _, rfl⟩ | (exfalso; simp only [List.length_cons, List.length_nil] at h; omega)
theorem len3 {l : List Int32} (h : l.length = 3) : ∃ a b c, l = [a, b, c] := by
  rcases l with _ | ⟨a, _ | ⟨b, _ | ⟨c, _ | ⟨e, l⟩⟩⟩⟩ <;> first | exact ⟨_, _, _, rfl⟩ | (exfalso; simp only [List.length_cons, List.length_nil] at h; omega)
theorem len4 {l : List Int32} (h : l.length = 4) : ∃ a b c e, l = [a, b, c, e] := by
  rcases l with _ | ⟨a, _ | ⟨b, _ | ⟨c, _ | ⟨e, _ | ⟨f, l⟩⟩⟩⟩⟩ <;> first | exact ⟨_, _, _, _, rfl⟩ | (exfalso; simp only [List.length_cons, List.length_nil] at h; omega)
theorem len5 {l : List Int32} (h : l.length = 5) : ∃ a b c e f, l = [a, b, c, e, f] := by
  rcases l with _ | ⟨a, _ | ⟨b, _ | ⟨c, _ | ⟨e, _ | ⟨f, _ | ⟨g, l⟩⟩⟩⟩⟩⟩ <;> first | exact ⟨_, _, _, _, _, rfl⟩ | (exfalso; simp only [List.length_cons, List.length_nil] at h; omega)
theorem sim1 : jSim 1 SC0 SR0 := by
  intro c q hq as hl
  match c, hq with
  | 0, hq =>
    have e : some (168, 220, 1, false) = some q := hq
    cases e
    obtain ⟨a, rfl⟩ := len1 hl
    obtain ⟨w, ⟨S1, h1⟩, ⟨S2, h2⟩⟩ := ar_open a
    exact ⟨.int w, S1, S2, ⟨w, rfl⟩, h1, h2, trivial⟩
  | 1, hq =>
    have e : some (169, 223, 5, false) = some q := hq
    cases e
    obtain ⟨a, b, c, e, f, rfl⟩ := len5 hl
    obtain ⟨w, ⟨S1, h1⟩, ⟨S2, h2⟩⟩ := ar_put a b c e f
    exact ⟨.int w, S1, S2, ⟨w, rfl⟩, h1, h2, trivial⟩
  | 2, hq =>
    have e : some (170, 224, 4, false) = some q := hq
    cases e
    obtain ⟨a, b, c, e, rfl⟩ := len4 hl
    obtain ⟨w, ⟨S1, h1⟩, ⟨S2, h2⟩⟩ := ar_get a b c e
    exact ⟨.int w, S1, S2, ⟨w, rfl⟩, h1, h2, trivial⟩
  | 3, hq =>
    have e : some (171, 225, 5, false) = some q := hq
    cases e
    obtain ⟨a, b, c, e, f, rfl⟩ := len5 hl
    obtain ⟨w, ⟨S1, h1⟩, ⟨S2, h2⟩⟩ := ar_feed a b c e f
    exact ⟨.int w, S1, S2, ⟨w, rfl⟩, h1, h2, trivial⟩
  | 4, hq =>
    have e : some (173, 227, 1, false) = some q := hq
    cases e
    obtain ⟨a, rfl⟩ := len1 hl
    obtain ⟨w, ⟨S1, h1⟩, ⟨S2, h2⟩⟩ := ar_cut a
    exact ⟨.int w, S1, S2, ⟨w, rfl⟩, h1, h2, trivial⟩
  | 5, hq =>
    have e : some (174, 228, 1, false) = some q := hq
    cases e
    obtain ⟨a, rfl⟩ := len1 hl
    obtain ⟨w, ⟨S1, h1⟩, ⟨S2, h2⟩⟩ := ar_write a
    exact ⟨.int w, S1, S2, ⟨w, rfl⟩, h1, h2, trivial⟩
  | 6, hq =>
    have e : some (176, 229, 1, false) = some q := hq
    cases e
    obtain ⟨a, rfl⟩ := len1 hl
    obtain ⟨w, ⟨S1, h1⟩, ⟨S2, h2⟩⟩ := ar_commit a
    exact ⟨.int w, S1, S2, ⟨w, rfl⟩, h1, h2, trivial⟩
  | 7, hq =>
    have e : some (177, 233, 1, false) = some q := hq
    cases e
    obtain ⟨a, rfl⟩ := len1 hl
    obtain ⟨w, ⟨S1, h1⟩, ⟨S2, h2⟩⟩ := ar_leave a
    exact ⟨.int w, S1, S2, ⟨w, rfl⟩, h1, h2, trivial⟩
  | 8, hq =>
    have e : some (178, 234, 1, false) = some q := hq
    cases e
    obtain ⟨a, rfl⟩ := len1 hl
    obtain ⟨w, ⟨S1, h1⟩, ⟨S2, h2⟩⟩ := ar_undo a
    exact ⟨.int w, S1, S2, ⟨w, rfl⟩, h1, h2, trivial⟩
  | 9, hq =>
    have e : some (179, 236, 3, false) = some q := hq
    cases e
    obtain ⟨a, b, c, rfl⟩ := len3 hl
    obtain ⟨w, ⟨S1, h1⟩, ⟨S2, h2⟩⟩ := ar_model a b c
    exact ⟨.int w, S1, S2, ⟨w, rfl⟩, h1, h2, trivial⟩
  | 10, hq =>
    have e : some (180, 237, 1, false) = some q := hq
    cases e
    obtain ⟨a, rfl⟩ := len1 hl
    obtain ⟨w, ⟨S1, h1⟩, ⟨S2, h2⟩⟩ := ar_log a
    exact ⟨.int w, S1, S2, ⟨w, rfl⟩, h1, h2, trivial⟩
  | 11, hq =>
    have e : some (181, 238, 1, false) = some q := hq
    cases e
    obtain ⟨a, rfl⟩ := len1 hl
    obtain ⟨w, ⟨S1, h1⟩, ⟨S2, h2⟩⟩ := ar_crash a
    exact ⟨.int w, S1, S2, ⟨w, rfl⟩, h1, h2, trivial⟩
  | 12, hq =>
    have e : some (182, 239, 0, false) = some q := hq
    cases e
    obtain rfl := len0 hl
    obtain ⟨w, ⟨S1, h1⟩, ⟨S2, h2⟩⟩ := ar_reopen
    exact ⟨.int w, S1, S2, ⟨w, rfl⟩, h1, h2, trivial⟩
  | 13, hq =>
    have e : some (183, 241, 1, false) = some q := hq
    cases e
    obtain ⟨a, rfl⟩ := len1 hl
    obtain ⟨w, ⟨S1, h1⟩, ⟨S2, h2⟩⟩ := ar_told a
    exact ⟨.int w, S1, S2, ⟨w, rfl⟩, h1, h2, trivial⟩
  | 14, hq =>
    have e : some (193, 319, 1, false) = some q := hq
    cases e
    obtain ⟨a, rfl⟩ := len1 hl
    obtain ⟨w, ⟨S1, h1⟩, ⟨S2, h2⟩⟩ := ar_sea a
    exact ⟨.int w, S1, S2, ⟨w, rfl⟩, h1, h2, trivial⟩
  | 15, hq =>
    have e : some (194, 324, 1, true) = some q := hq
    cases e
    obtain ⟨a, rfl⟩ := len1 hl
    obtain ⟨w, ⟨S1, h1⟩, ⟨S2, h2⟩⟩ := ar_rest a
    exact ⟨.long w, S1, S2, ⟨w, rfl⟩, h1, h2, trivial⟩
  | 16, hq =>
    have e : some (195, 325, 2, false) = some q := hq
    cases e
    obtain ⟨a, b, rfl⟩ := len2 hl
    obtain ⟨w, ⟨S1, h1⟩, ⟨S2, h2⟩⟩ := ar_water a b
    exact ⟨.int w, S1, S2, ⟨w, rfl⟩, h1, h2, trivial⟩
  | 17, hq =>
    have e : some (196, 326, 1, false) = some q := hq
    cases e
    obtain ⟨a, rfl⟩ := len1 hl
    obtain ⟨w, ⟨S1, h1⟩, ⟨S2, h2⟩⟩ := ar_liquid a
    exact ⟨.int w, S1, S2, ⟨w, rfl⟩, h1, h2, trivial⟩
  | 18, hq =>
    have e : some (197, 327, 1, true) = some q := hq
    cases e
    obtain ⟨a, rfl⟩ := len1 hl
    obtain ⟨w, ⟨S1, h1⟩, ⟨S2, h2⟩⟩ := ar_arm a
    exact ⟨.long w, S1, S2, ⟨w, rfl⟩, h1, h2, trivial⟩
  | 19, hq =>
    have e : some (198, 328, 2, true) = some q := hq
    cases e
    obtain ⟨a, b, rfl⟩ := len2 hl
    obtain ⟨w, ⟨S1, h1⟩, ⟨S2, h2⟩⟩ := ar_along a b
    exact ⟨.long w, S1, S2, ⟨w, rfl⟩, h1, h2, trivial⟩
  | 20, hq =>
    have e : some (199, 294, 1, false) = some q := hq
    cases e
    obtain ⟨a, rfl⟩ := len1 hl
    obtain ⟨w, ⟨S1, h1⟩, ⟨S2, h2⟩⟩ := ar_rules a
    exact ⟨.int w, S1, S2, ⟨w, rfl⟩, h1, h2, trivial⟩
  | 21, hq =>
    have e : some (200, 296, 1, false) = some q := hq
    cases e
    obtain ⟨a, rfl⟩ := len1 hl
    obtain ⟨w, ⟨S1, h1⟩, ⟨S2, h2⟩⟩ := ar_verdict a
    exact ⟨.int w, S1, S2, ⟨w, rfl⟩, h1, h2, trivial⟩
  | 22, hq =>
    have e : some (201, 297, 1, false) = some q := hq
    cases e
    obtain ⟨a, rfl⟩ := len1 hl
    obtain ⟨w, ⟨S1, h1⟩, ⟨S2, h2⟩⟩ := ar_steps a
    exact ⟨.int w, S1, S2, ⟨w, rfl⟩, h1, h2, trivial⟩
  | 23, hq =>
    have e : some (202, 298, 2, true) = some q := hq
    cases e
    obtain ⟨a, b, rfl⟩ := len2 hl
    obtain ⟨w, ⟨S1, h1⟩, ⟨S2, h2⟩⟩ := ar_let a b
    exact ⟨.long w, S1, S2, ⟨w, rfl⟩, h1, h2, trivial⟩
  | 24, hq =>
    have e : some (203, 334, 1, false) = some q := hq
    cases e
    obtain ⟨a, rfl⟩ := len1 hl
    obtain ⟨w, ⟨S1, h1⟩, ⟨S2, h2⟩⟩ := ar_nest a
    exact ⟨.int w, S1, S2, ⟨w, rfl⟩, h1, h2, trivial⟩
  | 25, hq =>
    have e : some (204, 338, 2, false) = some q := hq
    cases e
    obtain ⟨a, b, rfl⟩ := len2 hl
    obtain ⟨w, ⟨S1, h1⟩, ⟨S2, h2⟩⟩ := ar_piece a b
    exact ⟨.int w, S1, S2, ⟨w, rfl⟩, h1, h2, trivial⟩
  | 26, hq =>
    have e : some (205, 339, 2, false) = some q := hq
    cases e
    obtain ⟨a, b, rfl⟩ := len2 hl
    obtain ⟨w, ⟨S1, h1⟩, ⟨S2, h2⟩⟩ := ar_sheet a b
    exact ⟨.int w, S1, S2, ⟨w, rfl⟩, h1, h2, trivial⟩
  | 27, hq =>
    have e : some (206, 342, 0, false) = some q := hq
    cases e
    obtain rfl := len0 hl
    obtain ⟨w, ⟨S1, h1⟩, ⟨S2, h2⟩⟩ := ar_bars
    exact ⟨.int w, S1, S2, ⟨w, rfl⟩, h1, h2, trivial⟩
  | 28, hq =>
    have e : some (207, 344, 1, false) = some q := hq
    cases e
    obtain ⟨a, rfl⟩ := len1 hl
    obtain ⟨w, ⟨S1, h1⟩, ⟨S2, h2⟩⟩ := ar_rod a
    exact ⟨.int w, S1, S2, ⟨w, rfl⟩, h1, h2, trivial⟩
  | 29, hq =>
    have e : some (208, 348, 0, false) = some q := hq
    cases e
    obtain rfl := len0 hl
    obtain ⟨w, ⟨S1, h1⟩, ⟨S2, h2⟩⟩ := ar_lead
    exact ⟨.int w, S1, S2, ⟨w, rfl⟩, h1, h2, trivial⟩
  | 30, hq =>
    have e : some (209, 354, 2, false) = some q := hq
    cases e
    obtain ⟨a, b, rfl⟩ := len2 hl
    obtain ⟨w, ⟨S1, h1⟩, ⟨S2, h2⟩⟩ := ar_way a b
    exact ⟨.int w, S1, S2, ⟨w, rfl⟩, h1, h2, trivial⟩
  | 31, hq =>
    have e : some (210, 355, 2, false) = some q := hq
    cases e
    obtain ⟨a, b, rfl⟩ := len2 hl
    obtain ⟨w, ⟨S1, h1⟩, ⟨S2, h2⟩⟩ := ar_step a b
    exact ⟨.int w, S1, S2, ⟨w, rfl⟩, h1, h2, trivial⟩
  | 32, hq =>
    have e : some (211, 356, 0, false) = some q := hq
    cases e
    obtain rfl := len0 hl
    obtain ⟨w, ⟨S1, h1⟩, ⟨S2, h2⟩⟩ := ar_plan
    exact ⟨.int w, S1, S2, ⟨w, rfl⟩, h1, h2, trivial⟩
  | 33, hq =>
    have e : some (212, 360, 2, false) = some q := hq
    cases e
    obtain ⟨a, b, rfl⟩ := len2 hl
    obtain ⟨w, ⟨S1, h1⟩, ⟨S2, h2⟩⟩ := ar_task a b
    exact ⟨.int w, S1, S2, ⟨w, rfl⟩, h1, h2, trivial⟩
  | n + 34, hq => exact absurd hq (by simp [jArms])
