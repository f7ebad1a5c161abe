/-! THE REFERENCE: its tables, its first model -/
def rowsN : List Nat := [1, 16, 16, 24, 16, 8, 24, 8, 12, 6, 7, 9, 1]
def fieldsN : List Nat := [8, 9, 8, 5, 2, 6, 5, 14, 7, 8, 5, 1, 301]
def fpN : List Nat := [0, 8, 152, 280, 400, 432, 480, 600, 712, 796, 844, 879, 888, 1189]
def frN : List Nat := [0, 1, 17, 33, 57, 73, 81, 105, 113, 125, 131, 138, 147, 148]
def rowN : List Nat := [0, 0, 0, 0, 0, 0, 0, 0, 1, 1, 1, 1, 1, 1, 1, 1, 1, 2, 2, 2, 2, 2, 2, 2, 2, 2, 3, 3, 3, 3, 3, 3, 3, 3, 3, 4, 4, 4, 4, 4, 4, 4, 4, 4, 5, 5, 5, 5, 5, 5, 5, 5, 5, 6, 6, 6, 6, 6, 6, 6, 6, 6, 7, 7, 7, 7, 7, 7, 7, 7, 7, 8, 8, 8, 8, 8, 8, 8, 8, 8, 9, 9, 9, 9, 9, 9, 9, 9, 9, 10, 10, 10, 10, 10, 10, 10, 10, 10, 11, 11, 11, 11, 11, 11, 11, 11, 11, 12, 12, 12, 12, 12, 12, 12, 12, 12, 13, 13, 13, 13, 13, 13, 13, 13, 13, 14, 14, 14, 14, 14, 14, 14, 14, 14, 15, 15, 15, 15, 15, 15, 15, 15, 15, 16, 16, 16, 16, 16, 16, 16, 16, 16, 17, 17, 17, 17, 17, 17, 17, 17, 18, 18, 18, 18, 18, 18, 18, 18, 19, 19, 19, 19, 19, 19, 19, 19, 20, 20, 20, 20, 20, 20, 20, 20, 21, 21, 21, 21, 21, 21, 21, 21, 22, 22, 22, 22, 22, 22, 22, 22, 23, 23, 23, 23, 23, 23, 23, 23, 24, 24, 24, 24, 24, 24, 24, 24, 25, 25, 25, 25, 25, 25, 25, 25, 26, 26, 26, 26, 26, 26, 26, 26, 27, 27, 27, 27, 27, 27, 27, 27, 28, 28, 28, 28, 28, 28, 28, 28, 29, 29, 29, 29, 29, 29, 29, 29, 30, 30, 30, 30, 30, 30, 30, 30, 31, 31, 31, 31, 31, 31, 31, 31, 32, 32, 32, 32, 32, 32, 32, 32, 33, 33, 33, 33, 33, 34, 34, 34, 34, 34, 35, 35, 35, 35, 35, 36, 36, 36, 36, 36, 37, 37, 37, 37, 37, 38, 38, 38, 38, 38, 39, 39, 39, 39, 39, 40, 40, 40, 40, 40, 41, 41, 41, 41, 41, 42, 42, 42, 42, 42, 43, 43, 43, 43, 43, 44, 44, 44, 44, 44, 45, 45, 45, 45, 45, 46, 46, 46, 46, 46, 47, 47, 47, 47, 47, 48, 48, 48, 48, 48, 49, 49, 49, 49, 49, 50, 50, 50, 50, 50, 51, 51, 51, 51, 51, 52, 52, 52, 52, 52, 53, 53, 53, 53, 53, 54, 54, 54, 54, 54, 55, 55, 55, 55, 55, 56, 56, 56, 56, 56, 57, 57, 58, 58, 59, 59, 60, 60, 61, 61, 62, 62, 63, 63, 64, 64, 65, 65, 66, 66, 67, 67, 68, 68, 69, 69, 70, 70, 71, 71, 72, 72, 73, 73, 73, 73, 73, 73, 74, 74, 74, 74, 74, 74, 75, 75, 75, 75, 75, 75, 76, 76, 76, 76, 76, 76, 77, 77, 77, 77, 77, 77, 78, 78, 78, 78, 78, 78, 79, 79, 79, 79, 79, 79, 80, 80, 80, 80, 80, 80, 81, 81, 81, 81, 81, 82, 82, 82, 82, 82, 83, 83, 83, 83, 83, 84, 84, 84, 84, 84, 85, 85, 85, 85, 85, 86, 86, 86, 86, 86, 87, 87, 87, 87, 87, 88, 88, 88, 88, 88, 89, 89, 89, 89, 89, 90, 90, 90, 90, 90, 91, 91, 91, 91, 91, 92, 92, 92, 92, 92, 93, 93, 93, 93, 93, 94, 94, 94, 94, 94, 95, 95, 95, 95, 95, 96, 96, 96, 96, 96, 97, 97, 97, 97, 97, 98, 98, 98, 98, 98, 99, 99, 99, 99, 99, 100, 100, 100, 100, 100, 101, 101, 101, 101, 101, 102, 102, 102, 102, 102, 103, 103, 103, 103, 103, 104, 104, 104, 104, 104, 105, 105, 105, 105, 105, 105, 105, 105, 105, 105, 105, 105, 105, 105, 106, 106, 106, 106, 106, 106, 106, 106, 106, 106, 106, 106, 106, 106, 107, 107, 107, 107, 107, 107, 107, 107, 107, 107, 107, 107, 107, 107, 108, 108, 108, 108, 108, 108, 108, 108, 108, 108, 108, 108, 108, 108, 109, 109, 109, 109, 109, 109, 109, 109, 109, 109, 109, 109, 109, 109, 110, 110, 110, 110, 110, 110, 110, 110, 110, 110, 110, 110, 110, 110, 111, 111, 111, 111, 111, 111, 111, 111, 111, 111, 111, 111, 111, 111, 112, 112, 112, 112, 112, 112, 112, 112, 112, 112, 112, 112, 112, 112, 113, 113, 113, 113, 113, 113, 113, 114, 114, 114, 114, 114, 114, 114, 115, 115, 115, 115, 115, 115, 115, 116, 116, 116, 116, 116, 116, 116, 117, 117, 117, 117, 117, 117, 117, 118, 118, 118, 118, 118, 118, 118, 119, 119, 119, 119, 119, 119, 119, 120, 120, 120, 120, 120, 120, 120, 121, 121, 121, 121, 121, 121, 121, 122, 122, 122, 122, 122, 122, 122, 123, 123, 123, 123, 123, 123, 123, 124, 124, 124, 124, 124, 124, 124, 125, 125, 125, 125, 125, 125, 125, 125, 126, 126, 126, 126, 126, 126, 126, 126, 127, 127, 127, 127, 127, 127, 127, 127, 128, 128, 128, 128, 128, 128, 128, 128, 129, 129, 129, 129, 129, 129, 129, 129, 130, 130, 130, 130, 130, 130, 130, 130, 131, 131, 131, 131, 131, 132, 132, 132, 132, 132, 133, 133, 133, 133, 133, 134, 134, 134, 134, 134, 135, 135, 135, 135, 135, 136, 136, 136, 136, 136, 137, 137, 137, 137, 137, 138, 139, 140, 141, 142, 143, 144, 145, 146, 147, 147, 147, 147, 147, 147, 147, 147, 147, 147, 147, 147, 147, 147, 147, 147, 147, 147, 147, 147, 147, 147, 147, 147, 147, 147, 147, 147, 147, 147, 147, 147, 147, 147, 147, 147, 147, 147, 147, 147, 147, 147, 147, 147, 147, 147, 147, 147, 147, 147, 147, 147, 147, 147, 147, 147, 147, 147, 147, 147, 147, 147, 147, 147, 147, 147, 147, 147, 147, 147, 147, 147, 147, 147, 147, 147, 147, 147, 147, 147, 147, 147, 147, 147, 147, 147, 147, 147, 147, 147, 147, 147, 147, 147, 147, 147, 147, 147, 147, 147, 147, 147, 147, 147, 147, 147, 147, 147, 147, 147, 147, 147, 147, 147, 147, 147, 147, 147, 147, 147, 147, 147, 147, 147, 147, 147, 147, 147, 147, 147, 147, 147, 147, 147, 147, 147, 147, 147, 147, 147, 147, 147, 147, 147, 147, 147, 147, 147, 147, 147, 147, 147, 147, 147, 147, 147, 147, 147, 147, 147, 147, 147, 147, 147, 147, 147, 147, 147, 147, 147, 147, 147, 147, 147, 147, 147, 147, 147, 147, 147, 147, 147, 147, 147, 147, 147, 147, 147, 147, 147, 147, 147, 147, 147, 147, 147, 147, 147, 147, 147, 147, 147, 147, 147, 147, 147, 147, 147, 147, 147, 147, 147, 147, 147, 147, 147, 147, 147, 147, 147, 147, 147, 147, 147, 147, 147, 147, 147, 147, 147, 147, 147, 147, 147, 147, 147, 147, 147, 147, 147, 147, 147, 147, 147, 147, 147, 147, 147, 147, 147, 147, 147, 147, 147, 147, 147, 147, 147, 147, 147, 147, 147, 147, 147, 147, 147, 147, 147, 147, 147, 147, 147, 147, 147, 147, 147, 147, 147, 147, 147, 147, 147, 147, 147, 147, 147, 147, 147, 147, 147, 147, 147, 147, 147, 147, 147, 147, 147, 147, 147, 147]
def m0f : Nat → Int32 := fun j => if j < 8 then (if j = 3 then 0 else 1) else if 400 ≤ j ∧ j < 432 ∧ j % 2 = 1 then 1 else 0
/-- the reference's final rows -/
def rCst (I : Nat → Nat → Int32) : Prop := (∀ t, t < 13 → I 1 t = nI (rowsN.getD t 0)) ∧ (∀ t, t < 13 → I 2 t = nI (fieldsN.getD t 0)) ∧ (∀ t, t < 13 → I 3 t = nI (frN.getD t 0)) ∧ (∀ t, t < 13 → I 4 t = nI (fpN.getD t 0)) ∧ ∀ q, q < 1189 → I 5 q = nI (rowN.getD q 0)
theorem rCst.up {I : Nat → Nat → Int32} (h : rCst I) {a : Nat} (ha : 6 ≤ a) (g : Nat → Int32) : rCst (va_up I a g) := by
  have e : ∀ b, b < 6 → va_up I a g b = I b := fun b hb => va_up_ne _ _ (by omega)
  obtain ⟨h1, h2, h3, h4, h5⟩ := h
  exact ⟨fun t ht => by rw [e 1 (by omega)]; exact h1 t ht, fun t ht => by rw [e 2 (by omega)]; exact h2 t ht, fun t ht => by rw [e 3 (by omega)]; exact h3 t ht, fun t ht => by rw [e 4 (by omega)]; exact h4 t ht, fun t ht => by rw [e 5 (by omega)]; exact h5 t ht⟩
theorem tab_fp : ∀ t, t < 13 → fpN.getD (t + 1) 0 = fpN.getD t 0 + rowsN.getD t 0 * fieldsN.getD t 0 ∧ fpN.getD (t + 1) 0 ≤ 1189 ∧ rowsN.getD t 0 ≤ 24 ∧ fieldsN.getD t 0 ≤ 301 := by decide +kernel
def leastv (t f : Nat) : Int32 := if t = 0 then (if f = 3 then 0 else 1) else if t = 3 ∧ f = 3 then -15 else if t = 4 ∧ f = 1 then 1 else if t = 5 ∧ f = 4 then -1 else 0
def initv (t f : Nat) : Int32 := if t = 0 then (if f = 3 then 0 else 1) else if t = 4 ∧ f = 1 then 1 else 0
theorem initv_eq {t f : Nat} : (if t = 12 then 0 else if leastv t f < 0 then 0 else leastv t f) = initv t f := by
  unfold initv leastv
  by_cases h0 : t = 0
  · subst h0
    by_cases h : f = 3 <;> simp [h] <;> decide
  · by_cases h3 : t = 3
    · subst h3
      by_cases h : f = 3 <;> simp [h] <;> decide
    · by_cases h4 : t = 4
      · subst h4
        by_cases h : f = 1 <;> simp [h] <;> decide
      · by_cases h5 : t = 5
        · subst h5
          by_cases h : f = 4 <;> simp [h] <;> decide
        · simp [h0, h3, h4, h5]
theorem tab_m0 {t r f : Nat} (ht : t < 13) (hr : r < rowsN.getD t 0) (hf : f < fieldsN.getD t 0) : m0f (fpN.getD t 0 + r * fieldsN.getD t 0 + f) = initv t f := by
  have key : ∀ (P F R : Nat), fpN.getD t 0 = P → fieldsN.getD t 0 = F → rowsN.getD t 0 = R → m0f (P + r * F + f) = initv t f → m0f (fpN.getD t 0 + r * fieldsN.getD t 0 + f) = initv t f := by
    intro P F R h1 h2 h3 h
    rw [h1, h2]
    exact h
  match t, ht with
  | 0, _ =>
    have hr : r < 1 := hr
    have hf : f < 8 := hf
    show m0f (0 + r * 8 + f) = initv 0 f
    rw [show 0 + r * 8 + f = f by omega]
    unfold m0f initv
    rw [if_pos hf, if_pos rfl]
  | 4, _ =>
    have hr : r < 16 := hr
    have hf : f < 2 := hf
    show m0f (400 + r * 2 + f) = initv 4 f
    unfold m0f initv
    by_cases h : f = 1
    · rw [if_neg (by omega), if_pos (by omega), if_neg (show ¬ (4 = 0) by decide), if_pos ⟨rfl, h⟩]
    · rw [if_neg (by omega), if_neg (by omega), if_neg (show ¬ (4 = 0) by decide), if_neg (fun q => h q.2)]
  | 1, _ =>
    have hr : r < 16 := hr
    have hf : f < 9 := hf
    show m0f (8 + r * 9 + f) = initv 1 f
    unfold m0f initv
    rw [if_neg (by omega), if_neg (by omega), if_neg (by decide), if_neg (fun q => absurd q.1 (by decide))]
  | 2, _ =>
    have hr : r < 16 := hr
    have hf : f < 8 := hf
    show m0f (152 + r * 8 + f) = initv 2 f
    unfold m0f initv
    rw [if_neg (by omega), if_neg (by omega), if_neg (by decide), if_neg (fun q => absurd q.1 (by decide))]
  | 3, _ =>
    have hr : r < 24 := hr
    have hf : f < 5 := hf
    show m0f (280 + r * 5 + f) = initv 3 f
    unfold m0f initv
    rw [if_neg (by omega), if_neg (by omega), if_neg (by decide), if_neg (fun q => absurd q.1 (by decide))]
  | 5, _ =>
    have hr : r < 8 := hr
    have hf : f < 6 := hf
    show m0f (432 + r * 6 + f) = initv 5 f
    unfold m0f initv
    rw [if_neg (by omega), if_neg (by omega), if_neg (by decide), if_neg (fun q => absurd q.1 (by decide))]
  | 6, _ =>
    have hr : r < 24 := hr
    have hf : f < 5 := hf
    show m0f (480 + r * 5 + f) = initv 6 f
    unfold m0f initv
    rw [if_neg (by omega), if_neg (by omega), if_neg (by decide), if_neg (fun q => absurd q.1 (by decide))]
  | 7, _ =>
    have hr : r < 8 := hr
    have hf : f < 14 := hf
    show m0f (600 + r * 14 + f) = initv 7 f
    unfold m0f initv
    rw [if_neg (by omega), if_neg (by omega), if_neg (by decide), if_neg (fun q => absurd q.1 (by decide))]
  | 8, _ =>
    have hr : r < 12 := hr
    have hf : f < 7 := hf
    show m0f (712 + r * 7 + f) = initv 8 f
    unfold m0f initv
    rw [if_neg (by omega), if_neg (by omega), if_neg (by decide), if_neg (fun q => absurd q.1 (by decide))]
  | 9, _ =>
    have hr : r < 6 := hr
    have hf : f < 8 := hf
    show m0f (796 + r * 8 + f) = initv 9 f
    unfold m0f initv
    rw [if_neg (by omega), if_neg (by omega), if_neg (by decide), if_neg (fun q => absurd q.1 (by decide))]
  | 10, _ =>
    have hr : r < 7 := hr
    have hf : f < 5 := hf
    show m0f (844 + r * 5 + f) = initv 10 f
    unfold m0f initv
    rw [if_neg (by omega), if_neg (by omega), if_neg (by decide), if_neg (fun q => absurd q.1 (by decide))]
  | 11, _ =>
    have hr : r < 9 := hr
    have hf : f < 1 := hf
    show m0f (879 + r * 1 + f) = initv 11 f
    unfold m0f initv
    rw [if_neg (by omega), if_neg (by omega), if_neg (by decide), if_neg (fun q => absurd q.1 (by decide))]
  | 12, _ =>
    have hr : r < 1 := hr
    have hf : f < 301 := hf
    show m0f (888 + r * 301 + f) = initv 12 f
    unfold m0f initv
    rw [if_neg (by omega), if_neg (by omega), if_neg (by decide), if_neg (fun q => absurd q.1 (by decide))]
theorem tab_place {t r f : Nat} (ht : t < 13) (hr : r < rowsN.getD t 0) (hf : f < fieldsN.getD t 0) : fpN.getD t 0 + r * fieldsN.getD t 0 + f < fpN.getD (t + 1) 0 := by
  rw [(tab_fp t ht).1]
  have h1 : (r + 1) * fieldsN.getD t 0 ≤ rowsN.getD t 0 * fieldsN.getD t 0 := Nat.mul_le_mul_right _ hr
  rw [Nat.add_mul, Nat.one_mul] at h1
  omega
theorem at_ok {d : Nat} {I : Nat → Nat → Int32} {L : Nat → Nat → Int64} (h : rCst I) {t : Nat} (ht : t < 13) (r f : Nat) : jv d 214 0 [some (.ref 0), some (.int (nI t)), some (.int (nI r)), some (.int (nI f))] [] (shR, I, L, pR) = some (some (.int (nI (fpN.getD t 0 + r * fieldsN.getD t 0 + f))), (shR, I, L, pR)) := by
  rw [B214_0, if_pos (j_in_nI ht (by decide)), if_pos (j_in_nI ht (by decide)), nI_clamp (by omega), h.2.2.2.1 t ht, h.2.1 t ht, nI_mul, nI_add, nI_add]
theorem least_ok {d : Nat} {I : Nat → Nat → Int32} {L : Nat → Nat → Int64} {t f : Nat} (ht : t < 13) (hf : f < 400) : jv d 215 0 [some (.int (nI t)), some (.int (nI f))] [] (shR, I, L, pR) = some (some (.int (leastv t f)), (shR, I, L, pR)) := by
  have e0 : nI t = (0 : Int32) ↔ t = 0 := nI_eq (b := 0) (by omega) (by decide)
  have e3 : nI t = (3 : Int32) ↔ t = 3 := nI_eq (b := 3) (by omega) (by decide)
  have e4 : nI t = (4 : Int32) ↔ t = 4 := nI_eq (b := 4) (by omega) (by decide)
  have e5 : nI t = (5 : Int32) ↔ t = 5 := nI_eq (b := 5) (by omega) (by decide)
  have g1 : nI f = (1 : Int32) ↔ f = 1 := nI_eq (b := 1) (by omega) (by decide)
  have g3 : nI f = (3 : Int32) ↔ f = 3 := nI_eq (b := 3) (by omega) (by decide)
  have g4 : nI f = (4 : Int32) ↔ f = 4 := nI_eq (b := 4) (by omega) (by decide)
  simp only [B215_0, B215_14, B215_30, B215_44, B215_58, B215_59, e0, e3, e4, e5, g1, g3, g4]
  unfold leastv
  by_cases h0 : t = 0
  · simp only [h0, if_true]; split <;> rfl
  · by_cases h3 : t = 3
    · subst h3
      by_cases k3 : f = 3 <;> simp [k3]
    · by_cases h4 : t = 4
      · subst h4
        by_cases k1 : f = 1 <;> simp [k1]
      · by_cases h5 : t = 5
        · subst h5
          by_cases k4 : f = 4 <;> simp [k4]
        · simp [h0, h3, h4, h5]
set_option maxHeartbeats 1000000 in
theorem first_ok6 {d : Nat} {I : Nat → Nat → Int32} {L : Nat → Nat → Int64} (h : rCst I) (o2 o3 o4 o5 : Option Value) : jv (d + 1) 217 0 [some (.ref 0), some (.ref 6), o2, o3, o4, o5] [] (shR, I, L, pR) = some (none, (shR, va_up I 6 (j_fill (I 6) m0f 1189), L, pR)) := by
  have hJ : ∀ n, rCst (va_up I 6 (j_fill (I 6) m0f n)) := fun n => h.up (by decide) _
  have outer := j_runE (fun t (x : Option Value × Option Value × Option Value) => jv (d + 1) 217 2 [some (.ref 0), some (.ref 6), some (.int (nI t)), x.1, x.2.1, x.2.2] [] (shR, va_up I 6 (j_fill (I 6) m0f (fpN.getD t 0)), L, pR)) 13 (fun t ht x => by
    obtain ⟨x3, x4, x5⟩ := x
    obtain ⟨q1, q2, q3, q4⟩ := tab_fp t ht
    have mid := j_runE (fun r (y : Option Value × Option Value) => jv (d + 1) 217 10 [some (.ref 0), some (.ref 6), some (.int (nI t)), some (.int (nI r)), y.1, y.2] [] (shR, va_up I 6 (j_fill (I 6) m0f (fpN.getD t 0 + r * fieldsN.getD t 0)), L, pR)) (rowsN.getD t 0) (fun r hr y => by
      obtain ⟨y4, y5⟩ := y
      have inner := j_runE (fun f (z : Option Value) => jv (d + 1) 217 23 [some (.ref 0), some (.ref 6), some (.int (nI t)), some (.int (nI r)), some (.int (nI f)), z] [] (shR, va_up I 6 (j_fill (I 6) m0f (fpN.getD t 0 + r * fieldsN.getD t 0 + f)), L, pR)) (fieldsN.getD t 0) (fun f hf z => by
        have hpl := tab_place ht hr hf
        have hm0 := (tab_m0 ht hr hf).trans (initv_eq (t := t) (f := f)).symm
        refine ⟨some (.int (if t = 12 then 0 else leastv t f)), ?_⟩
        have step : ∀ (w : Int32) (zz : Option Value), w = (if t = 12 then 0 else leastv t f) → jv (d + 1) 217 50 [some (.ref 0), some (.ref 6), some (.int (nI t)), some (.int (nI r)), some (.int (nI f)), zz] [.int w] (shR, va_up I 6 (j_fill (I 6) m0f (fpN.getD t 0 + r * fieldsN.getD t 0 + f)), L, pR) = jv (d + 1) 217 23 [some (.ref 0), some (.ref 6), some (.int (nI t)), some (.int (nI r)), some (.int (nI (f + 1))), some (.int (if t = 12 then 0 else leastv t f))] [] (shR, va_up I 6 (j_fill (I 6) m0f (fpN.getD t 0 + r * fieldsN.getD t 0 + (f + 1))), L, pR) := by
          intro w zz hw
          rw [B217_50_a6, jgo_some rfl (at_ok (hJ _) ht r f)]
          simp only [Option.toList, List.cons_append, List.nil_append]
          rw [B217_61_a6]
          have fin : ∀ u : Int32, u = m0f (fpN.getD t 0 + r * fieldsN.getD t 0 + f) → jv (d + 1) 217 72 [some (.ref 0), some (.ref 6), some (.int (nI t)), some (.int (nI r)), some (.int (nI f)), some (.int w)] [.int u, .int (nI (fpN.getD t 0 + r * fieldsN.getD t 0 + f)), .ref 6] (shR, va_up I 6 (j_fill (I 6) m0f (fpN.getD t 0 + r * fieldsN.getD t 0 + f)), L, pR) = jv (d + 1) 217 23 [some (.ref 0), some (.ref 6), some (.int (nI t)), some (.int (nI r)), some (.int (nI (f + 1))), some (.int (if t = 12 then 0 else leastv t f))] [] (shR, va_up I 6 (j_fill (I 6) m0f (fpN.getD t 0 + r * fieldsN.getD t 0 + (f + 1))), L, pR) := by
            intro u hu
            rw [B217_72_a6, if_pos (j_in_nI (by omega) (by decide)), nI_clamp (by omega), hu, j_up_fill, nI_1, hw]
            rfl
          by_cases hlt : w < 0
          · rw [if_pos hlt]
            refine fin 0 ?_
            rw [hm0]
            by_cases h12 : t = 12
            · rw [if_pos h12]
            · rw [if_neg h12, if_pos (by rw [hw, if_neg h12] at hlt; exact hlt)]
          · rw [if_neg hlt]
            refine fin w ?_
            rw [hm0, hw]
            by_cases h12 : t = 12
            · rw [if_pos h12, if_pos h12]
            · rw [if_neg h12, if_neg h12, if_neg (by rw [hw, if_neg h12] at hlt; exact hlt)]
        rw [B217_23_a6, if_pos (j_in_nI ht (by decide)), nI_clamp (by omega), (hJ _).2.1 t ht, if_pos (nI_lt hf (by omega))]
        by_cases h12 : t = 12
        · rw [if_pos (by rw [h12]; rfl)]
          exact step 0 z (by rw [if_pos h12])
        · rw [if_neg (show ¬ nI t = (12 : Int32) from fun q => h12 ((nI_eq (by omega) (by decide)).mp (show nI t = nI 12 from q))), jgo_some rfl (least_ok ht (by omega))]
          exact step (leastv t f) z (by rw [if_neg h12]))
      obtain ⟨z, hz⟩ := inner y5
      refine ⟨(some (.int (nI (fieldsN.getD t 0))), z), ?_⟩
      dsimp only at hz ⊢
      rw [B217_10_a6, if_pos (j_in_nI ht (by decide)), nI_clamp (by omega), (hJ _).1 t ht, if_pos (nI_lt hr (by omega))]
      refine hz.trans ?_
      rw [B217_23_a6, if_pos (j_in_nI ht (by decide)), nI_clamp (by omega), (hJ _).2.1 t ht, if_neg (nI_nlt (Nat.le_refl _) (by omega)), nI_1, Nat.add_mul, Nat.one_mul, ← Nat.add_assoc])
    obtain ⟨y, hy⟩ := mid (x4, x5)
    refine ⟨(some (.int (nI (rowsN.getD t 0))), y.1, y.2), ?_⟩
    dsimp only at hy ⊢
    rw [B217_2_a6, if_pos (show nI t < (13 : Int32) from nI_lt (b := 13) ht (by decide))]
    rw [Nat.zero_mul, Nat.add_zero] at hy
    refine hy.trans ?_
    rw [B217_10_a6, if_pos (j_in_nI ht (by decide)), nI_clamp (by omega), (hJ _).1 t ht, if_neg (nI_nlt (Nat.le_refl _) (by omega)), nI_1, q1])
  obtain ⟨x, hx⟩ := outer (o3, o4, o5)
  dsimp only at hx
  rw [show fpN.getD 0 0 = 0 from rfl, j_fill_zero, show va_up I 6 (I 6) = I from by funext b; by_cases hb : b = 6 <;> simp [va_up, hb]] at hx
  rw [B217_0_a6]
  refine hx.trans ?_
  rw [B217_2_a6, if_neg (show ¬ nI 13 < (13 : Int32) from nI_nlt (a := 13) (b := 13) (Nat.le_refl _) (by decide))]
  rfl
set_option maxHeartbeats 1000000 in
theorem first_ok8 {d : Nat} {I : Nat → Nat → Int32} {L : Nat → Nat → Int64} (h : rCst I) (o2 o3 o4 o5 : Option Value) : jv (d + 1) 217 0 [some (.ref 0), some (.ref 8), o2, o3, o4, o5] [] (shR, I, L, pR) = some (none, (shR, va_up I 8 (j_fill (I 8) m0f 1189), L, pR)) := by
  have hJ : ∀ n, rCst (va_up I 8 (j_fill (I 8) m0f n)) := fun n => h.up (by decide) _
  have outer := j_runE (fun t (x : Option Value × Option Value × Option Value) => jv (d + 1) 217 2 [some (.ref 0), some (.ref 8), some (.int (nI t)), x.1, x.2.1, x.2.2] [] (shR, va_up I 8 (j_fill (I 8) m0f (fpN.getD t 0)), L, pR)) 13 (fun t ht x => by
    obtain ⟨x3, x4, x5⟩ := x
    obtain ⟨q1, q2, q3, q4⟩ := tab_fp t ht
    have mid := j_runE (fun r (y : Option Value × Option Value) => jv (d + 1) 217 10 [some (.ref 0), some (.ref 8), some (.int (nI t)), some (.int (nI r)), y.1, y.2] [] (shR, va_up I 8 (j_fill (I 8) m0f (fpN.getD t 0 + r * fieldsN.getD t 0)), L, pR)) (rowsN.getD t 0) (fun r hr y => by
      obtain ⟨y4, y5⟩ := y
      have inner := j_runE (fun f (z : Option Value) => jv (d + 1) 217 23 [some (.ref 0), some (.ref 8), some (.int (nI t)), some (.int (nI r)), some (.int (nI f)), z] [] (shR, va_up I 8 (j_fill (I 8) m0f (fpN.getD t 0 + r * fieldsN.getD t 0 + f)), L, pR)) (fieldsN.getD t 0) (fun f hf z => by
        have hpl := tab_place ht hr hf
        have hm0 := (tab_m0 ht hr hf).trans (initv_eq (t := t) (f := f)).symm
        refine ⟨some (.int (if t = 12 then 0 else leastv t f)), ?_⟩
        have step : ∀ (w : Int32) (zz : Option Value), w = (if t = 12 then 0 else leastv t f) → jv (d + 1) 217 50 [some (.ref 0), some (.ref 8), some (.int (nI t)), some (.int (nI r)), some (.int (nI f)), zz] [.int w] (shR, va_up I 8 (j_fill (I 8) m0f (fpN.getD t 0 + r * fieldsN.getD t 0 + f)), L, pR) = jv (d + 1) 217 23 [some (.ref 0), some (.ref 8), some (.int (nI t)), some (.int (nI r)), some (.int (nI (f + 1))), some (.int (if t = 12 then 0 else leastv t f))] [] (shR, va_up I 8 (j_fill (I 8) m0f (fpN.getD t 0 + r * fieldsN.getD t 0 + (f + 1))), L, pR) := by
          intro w zz hw
          rw [B217_50_a8, jgo_some rfl (at_ok (hJ _) ht r f)]
          simp only [Option.toList, List.cons_append, List.nil_append]
          rw [B217_61_a8]
          have fin : ∀ u : Int32, u = m0f (fpN.getD t 0 + r * fieldsN.getD t 0 + f) → jv (d + 1) 217 72 [some (.ref 0), some (.ref 8), some (.int (nI t)), some (.int (nI r)), some (.int (nI f)), some (.int w)] [.int u, .int (nI (fpN.getD t 0 + r * fieldsN.getD t 0 + f)), .ref 8] (shR, va_up I 8 (j_fill (I 8) m0f (fpN.getD t 0 + r * fieldsN.getD t 0 + f)), L, pR) = jv (d + 1) 217 23 [some (.ref 0), some (.ref 8), some (.int (nI t)), some (.int (nI r)), some (.int (nI (f + 1))), some (.int (if t = 12 then 0 else leastv t f))] [] (shR, va_up I 8 (j_fill (I 8) m0f (fpN.getD t 0 + r * fieldsN.getD t 0 + (f + 1))), L, pR) := by
            intro u hu
            rw [B217_72_a8, if_pos (j_in_nI (by omega) (by decide)), nI_clamp (by omega), hu, j_up_fill, nI_1, hw]
            rfl
          by_cases hlt : w < 0
          · rw [if_pos hlt]
            refine fin 0 ?_
            rw [hm0]
            by_cases h12 : t = 12
            · rw [if_pos h12]
            · rw [if_neg h12, if_pos (by rw [hw, if_neg h12] at hlt; exact hlt)]
          · rw [if_neg hlt]
            refine fin w ?_
            rw [hm0, hw]
            by_cases h12 : t = 12
            · rw [if_pos h12, if_pos h12]
            · rw [if_neg h12, if_neg h12, if_neg (by rw [hw, if_neg h12] at hlt; exact hlt)]
        rw [B217_23_a8, if_pos (j_in_nI ht (by decide)), nI_clamp (by omega), (hJ _).2.1 t ht, if_pos (nI_lt hf (by omega))]
        by_cases h12 : t = 12
        · rw [if_pos (by rw [h12]; rfl)]
          exact step 0 z (by rw [if_pos h12])
        · rw [if_neg (show ¬ nI t = (12 : Int32) from fun q => h12 ((nI_eq (by omega) (by decide)).mp (show nI t = nI 12 from q))), jgo_some rfl (least_ok ht (by omega))]
          exact step (leastv t f) z (by rw [if_neg h12]))
      obtain ⟨z, hz⟩ := inner y5
      refine ⟨(some (.int (nI (fieldsN.getD t 0))), z), ?_⟩
      dsimp only at hz ⊢
      rw [B217_10_a8, if_pos (j_in_nI ht (by decide)), nI_clamp (by omega), (hJ _).1 t ht, if_pos (nI_lt hr (by omega))]
      refine hz.trans ?_
      rw [B217_23_a8, if_pos (j_in_nI ht (by decide)), nI_clamp (by omega), (hJ _).2.1 t ht, if_neg (nI_nlt (Nat.le_refl _) (by omega)), nI_1, Nat.add_mul, Nat.one_mul, ← Nat.add_assoc])
    obtain ⟨y, hy⟩ := mid (x4, x5)
    refine ⟨(some (.int (nI (rowsN.getD t 0))), y.1, y.2), ?_⟩
    dsimp only at hy ⊢
    rw [B217_2_a8, if_pos (show nI t < (13 : Int32) from nI_lt (b := 13) ht (by decide))]
    rw [Nat.zero_mul, Nat.add_zero] at hy
    refine hy.trans ?_
    rw [B217_10_a8, if_pos (j_in_nI ht (by decide)), nI_clamp (by omega), (hJ _).1 t ht, if_neg (nI_nlt (Nat.le_refl _) (by omega)), nI_1, q1])
  obtain ⟨x, hx⟩ := outer (o3, o4, o5)
  dsimp only at hx
  rw [show fpN.getD 0 0 = 0 from rfl, j_fill_zero, show va_up I 8 (I 8) = I from by funext b; by_cases hb : b = 8 <;> simp [va_up, hb]] at hx
  rw [B217_0_a8]
  refine hx.trans ?_
  rw [B217_2_a8, if_neg (show ¬ nI 13 < (13 : Int32) from nI_nlt (a := 13) (b := 13) (Nat.le_refl _) (by decide))]
  rfl
