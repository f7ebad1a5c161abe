/-! ALL ARMS, AND ANY RUN OF CALLS -/
section SECP
variable {S T : jS} {B : Nat}
/-- a call of both -/
def armO (B : Nat) (S T : jS) (q : Nat × Nat × Nat × Bool) (as : List Int32) : Prop := Nat.ble (j_wd (.ref 0 :: as.map .int)) (jMM q.1).2 = true ∧ Nat.ble (j_wd (.ref 0 :: as.map .int)) (jMM q.2.1).2 = true ∧ alk B (jv 1900 q.1 0 (j_ent (jMM q.1).2 (.ref 0 :: as.map .int)) [] S) (jv 1900 q.2.1 0 (j_ent (jMM q.2.1).2 (.ref 0 :: as.map .int)) [] T)
theorem o_open (h : RelS B S T) (x : Int32) : armO (B + 17) S T (168, 220, 1, false) [x] := ⟨rfl, rfl, (a_open h x).mono (by omega)⟩
theorem o_put (h : RelS B S T) (x : Int32) (y : Int32) (z : Int32) (u : Int32) (w : Int32) : armO (B + 17) S T (169, 223, 5, false) [x, y, z, u, w] := ⟨rfl, rfl, (a_put h x y z u w).mono (by omega)⟩
theorem o_get (h : RelS B S T) (x : Int32) (y : Int32) (z : Int32) (u : Int32) : armO (B + 17) S T (170, 224, 4, false) [x, y, z, u] := ⟨rfl, rfl, (a_get h x y z u).mono (by omega)⟩
theorem o_feed (h : RelS B S T) (x : Int32) (y : Int32) (z : Int32) (u : Int32) (w : Int32) : armO (B + 17) S T (171, 225, 5, false) [x, y, z, u, w] := ⟨rfl, rfl, (a_feed h x y z u w).mono (by omega)⟩
theorem o_cut (h : RelS B S T) (x : Int32) : armO (B + 17) S T (173, 227, 1, false) [x] := ⟨rfl, rfl, (a_cut h x).mono (by omega)⟩
theorem o_write (h : RelS B S T) (x : Int32) : armO (B + 17) S T (174, 228, 1, false) [x] := ⟨rfl, rfl, (a_write h x).mono (by omega)⟩
theorem o_commit (h : RelS B S T) (x : Int32) : armO (B + 17) S T (176, 229, 1, false) [x] := ⟨rfl, rfl, (a_commit h x).mono (by omega)⟩
theorem o_leave (h : RelS B S T) (x : Int32) : armO (B + 17) S T (177, 233, 1, false) [x] := ⟨rfl, rfl, (a_leave h x).mono (by omega)⟩
theorem o_undo (h : RelS B S T) (x : Int32) : armO (B + 17) S T (178, 234, 1, false) [x] := ⟨rfl, rfl, (a_undo h x).mono (by omega)⟩
theorem o_model (h : RelS B S T) (x : Int32) (y : Int32) (z : Int32) : armO (B + 17) S T (179, 236, 3, false) [x, y, z] := ⟨rfl, rfl, (a_model h x y z).mono (by omega)⟩
theorem o_log (h : RelS B S T) (x : Int32) : armO (B + 17) S T (180, 237, 1, false) [x] := ⟨rfl, rfl, (a_log h x).mono (by omega)⟩
theorem o_crash (h : RelS B S T) (x : Int32) : armO (B + 17) S T (181, 238, 1, false) [x] := ⟨rfl, rfl, (a_crash h x).mono (by omega)⟩
theorem o_reopen (h : RelS B S T) : armO (B + 17) S T (182, 239, 0, false) [] := ⟨rfl, rfl, (a_reopen h ).mono (by omega)⟩
theorem o_told (h : RelS B S T) (x : Int32) : armO (B + 17) S T (183, 241, 1, false) [x] := ⟨rfl, rfl, (a_told h x).mono (by omega)⟩
theorem o_sea (h : RelS B S T) (hB : B + 17 < 2000000000) (x : Int32) : armO (B + 17) S T (193, 319, 1, false) [x] := ⟨rfl, rfl, a_sea h hB x⟩
theorem o_rest (h : RelS B S T) (x : Int32) : armO (B + 17) S T (194, 324, 1, true) [x] := ⟨rfl, rfl, (a_rest h x).mono (by omega)⟩
theorem o_water (h : RelS B S T) (x : Int32) (y : Int32) : armO (B + 17) S T (195, 325, 2, false) [x, y] := ⟨rfl, rfl, (a_water h x y).mono (by omega)⟩
theorem o_liquid (h : RelS B S T) (x : Int32) : armO (B + 17) S T (196, 326, 1, false) [x] := ⟨rfl, rfl, (a_liquid h x).mono (by omega)⟩
theorem o_arm (h : RelS B S T) (x : Int32) : armO (B + 17) S T (197, 327, 1, true) [x] := ⟨rfl, rfl, (a_arm h x).mono (by omega)⟩
theorem o_along (h : RelS B S T) (x : Int32) (y : Int32) : armO (B + 17) S T (198, 328, 2, true) [x, y] := ⟨rfl, rfl, (a_along h x y).mono (by omega)⟩
theorem o_rules (h : RelS B S T) (x : Int32) : armO (B + 17) S T (199, 294, 1, false) [x] := ⟨rfl, rfl, (a_rules h x).mono (by omega)⟩
theorem o_verdict (h : RelS B S T) (x : Int32) : armO (B + 17) S T (200, 296, 1, false) [x] := ⟨rfl, rfl, (a_verdict h x).mono (by omega)⟩
theorem o_steps (h : RelS B S T) (x : Int32) : armO (B + 17) S T (201, 297, 1, false) [x] := ⟨rfl, rfl, (a_steps h x).mono (by omega)⟩
theorem o_let (h : RelS B S T) (x : Int32) (y : Int32) : armO (B + 17) S T (202, 298, 2, true) [x, y] := ⟨rfl, rfl, (a_let h x y).mono (by omega)⟩
theorem o_nest (h : RelS B S T) (x : Int32) : armO (B + 17) S T (203, 334, 1, false) [x] := ⟨rfl, rfl, (a_nest h x).mono (by omega)⟩
theorem o_piece (h : RelS B S T) (x : Int32) (y : Int32) : armO (B + 17) S T (204, 338, 2, false) [x, y] := ⟨rfl, rfl, (a_piece h x y).mono (by omega)⟩
theorem o_sheet (h : RelS B S T) (x : Int32) (y : Int32) : armO (B + 17) S T (205, 339, 2, false) [x, y] := ⟨rfl, rfl, (a_sheet h x y).mono (by omega)⟩
theorem o_bars (h : RelS B S T) : armO (B + 17) S T (206, 342, 0, false) [] := ⟨rfl, rfl, (a_bars h ).mono (by omega)⟩
theorem o_rod (h : RelS B S T) (x : Int32) : armO (B + 17) S T (207, 344, 1, false) [x] := ⟨rfl, rfl, (a_rod h x).mono (by omega)⟩
theorem o_lead (h : RelS B S T) : armO (B + 17) S T (208, 348, 0, false) [] := ⟨rfl, rfl, (a_lead h ).mono (by omega)⟩
theorem o_way (h : RelS B S T) (x : Int32) (y : Int32) : armO (B + 17) S T (209, 354, 2, false) [x, y] := ⟨rfl, rfl, (a_way h x y).mono (by omega)⟩
theorem o_step (h : RelS B S T) (x : Int32) (y : Int32) : armO (B + 17) S T (210, 355, 2, false) [x, y] := ⟨rfl, rfl, (a_step h x y).mono (by omega)⟩
theorem o_plan (h : RelS B S T) : armO (B + 17) S T (211, 356, 0, false) [] := ⟨rfl, rfl, (a_plan h ).mono (by omega)⟩
theorem o_task (h : RelS B S T) (x : Int32) (y : Int32) : armO (B + 17) S T (212, 360, 2, false) [x, y] := ⟨rfl, rfl, (a_task h x y).mono (by omega)⟩
theorem arms_all (h : RelS B S T) (hB : B + 17 < 2000000000) {q : Nat × Nat × Nat × Bool} (hq : q ∈ jArms) (as : List Int32) (hl : as.length = q.2.2.1) : armO (B + 17) S T q as := by
  simp only [jArms, List.mem_cons, List.not_mem_nil, or_false] at hq
  rcases hq with rfl | rfl | rfl | rfl | rfl | rfl | rfl | rfl | rfl | rfl | rfl | rfl | rfl | rfl | rfl | rfl | rfl | rfl | rfl | rfl | rfl | rfl | rfl | rfl | rfl | rfl | rfl | rfl | rfl | rfl | rfl | rfl | rfl | rfl
  · match as, hl with
    | [x], _ => exact o_open h x
  · match as, hl with
    | [x, y, z, u, w], _ => exact o_put h x y z u w
  · match as, hl with
    | [x, y, z, u], _ => exact o_get h x y z u
  · match as, hl with
    | [x, y, z, u, w], _ => exact o_feed h x y z u w
  · match as, hl with
    | [x], _ => exact o_cut h x
  · match as, hl with
    | [x], _ => exact o_write h x
  · match as, hl with
    | [x], _ => exact o_commit h x
  · match as, hl with
    | [x], _ => exact o_leave h x
  · match as, hl with
    | [x], _ => exact o_undo h x
  · match as, hl with
    | [x, y, z], _ => exact o_model h x y z
  · match as, hl with
    | [x], _ => exact o_log h x
  · match as, hl with
    | [x], _ => exact o_crash h x
  · match as, hl with
    | [], _ => exact o_reopen h 
  · match as, hl with
    | [x], _ => exact o_told h x
  · match as, hl with
    | [x], _ => exact o_sea h hB x
  · match as, hl with
    | [x], _ => exact o_rest h x
  · match as, hl with
    | [x, y], _ => exact o_water h x y
  · match as, hl with
    | [x], _ => exact o_liquid h x
  · match as, hl with
    | [x], _ => exact o_arm h x
  · match as, hl with
    | [x, y], _ => exact o_along h x y
  · match as, hl with
    | [x], _ => exact o_rules h x
  · match as, hl with
    | [x], _ => exact o_verdict h x
  · match as, hl with
    | [x], _ => exact o_steps h x
  · match as, hl with
    | [x, y], _ => exact o_let h x y
  · match as, hl with
    | [x], _ => exact o_nest h x
  · match as, hl with
    | [x, y], _ => exact o_piece h x y
  · match as, hl with
    | [x, y], _ => exact o_sheet h x y
  · match as, hl with
    | [], _ => exact o_bars h 
  · match as, hl with
    | [x], _ => exact o_rod h x
  · match as, hl with
    | [], _ => exact o_lead h 
  · match as, hl with
    | [x, y], _ => exact o_way h x y
  · match as, hl with
    | [x, y], _ => exact o_step h x y
  · match as, hl with
    | [], _ => exact o_plan h 
  · match as, hl with
    | [x, y], _ => exact o_task h x y
/-- any run of calls is answered alike -/
theorem sim_all : ∀ (n B : Nat) (S T : jS), RelS B S T → B + 17 * n < 2000000000 → jSim n S T := by
  intro n
  induction n with
  | zero => intro _ _ _ _ _; exact trivial
  | succ n ih =>
    intro B S T h hB c q hq as hl
    have hm : q ∈ jArms := List.mem_of_getElem? hq
    obtain ⟨f1, f2, v, S', T', e1, e2, hR⟩ := arms_all h (by omega) hm as hl
    have hS : S.1 = shC ∧ T.1 = shR := by obtain ⟨_, _, _, _, _, _, _, _, _, -, -, rfl, rfl, -⟩ := h; exact ⟨rfl, rfl⟩
    have hS' : S'.1 = shC ∧ T'.1 = shR := by obtain ⟨_, _, _, _, _, _, _, _, _, -, -, rfl, rfl, -⟩ := id hR; exact ⟨rfl, rfl⟩
    have kd := kinds_all q hm
    refine ⟨v, S', T', ?_, ⟨f1, e1, hS'.1.trans hS.1.symm⟩, ⟨f2, e2, hS'.2.trans hS.2.symm⟩, ih (B + 17) S' T' hR (by omega)⟩
    cases hk : q.2.2.2 with
    | true =>
      rw [hk, if_pos rfl] at kd
      exact jv_lng kd e1
    | false =>
      rw [hk, if_neg (by decide)] at kd
      exact jv_int kd e1
theorem sim_0 : jSim 64 SC0 SR0 := sim_all 64 0 SC0 SR0 RelS_0 (by decide)
end SECP
