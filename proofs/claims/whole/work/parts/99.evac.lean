/-! RULES: what a sum and a condition mean -/
section EVAC
/-- the rounds of a series: e what the body is at a counter's value; kind 0 sum, 1 greatest, 2 least -/
def srd (e : Int → Nat × Int × Int) (kind : Nat) (a : Int) : Nat → Nat × Int × Int
  | 0 => (0, 0, if kind = 0 then 1 else 0)
  | j + 1 => ((srd e kind a j).1 + (e (a + j)).1, if kind = 0 then fA 0 (srd e kind a j).2.1 (srd e kind a j).2.2 (e (a + j)).2.1 (e (a + j)).2.2 else if j = 0 then (e (a + j)).2 else if fC (e (a + j)).2.1 (e (a + j)).2.2 (srd e kind a j).2.1 (srd e kind a j).2.2 = 2 then (0, 0) else if fC (e (a + j)).2.1 (e (a + j)).2.2 (srd e kind a j).2.1 (srd e kind a j).2.2 = (if kind = 1 then 1 else -1) then (e (a + j)).2 else (srd e kind a j).2)
def upZ (c : Nat → Int) (k : Nat) (v : Int) : Nat → Int := fun j => if j = k then v else c j
/-- the verdict of a comparison -/
def vdQ (op : Int32) (o : Int32) : Int := if o = 2 then 2 else if op = 23 then (if o = 0 then 1 else 0) else if op = 24 then (if o = 0 then 0 else 1) else if op = 25 then (if o < 0 then 1 else 0) else if op = 26 then (if 0 < o then 1 else 0) else if op = 27 then (if 0 < o then 0 else 1) else (if o < 0 then 0 else 1)
/-- two verdicts joined; st decides -/
def vdJ (st x y : Int) : Int := if x = st ∨ y = st then st else if x = 2 ∨ y = 2 then 2 else 1 - st
def ev (R : Nat → Nat → Int32) (V : Nat → Int64) (ln : Nat → Nat) (tq : Nat → Int × Int → Int × Int) (wd : Nat → Int × Int) (wo : Nat → Int × Int → Int × Int) : Nat → Bool → (Nat → Int) → Nat → Nat × Int × Int
  | 0, _, _, _ => (0, 0, 0)
  | f + 1, true, c, k =>
    if R 0 k = 1 then (1, (V k).toInt, 1)
    else if R 0 k = 2 then (1, c (R 1 k).toNatClampNeg, 1)
    else if R 0 k = 3 then ((ev R V ln tq wd wo f true c (ln (R 1 k).toNatClampNeg)).1 + 1, (ev R V ln tq wd wo f true c (ln (R 1 k).toNatClampNeg)).2)
    else if R 0 k = 4 then ((ev R V ln tq wd wo f true c (R 2 k).toNatClampNeg).1 + 1, tq (R 1 k).toNatClampNeg (ev R V ln tq wd wo f true c (R 2 k).toNatClampNeg).2)
    else if R 0 k = 5 then (1, wd (R 1 k).toNatClampNeg)
    else if R 0 k = 6 then ((ev R V ln tq wd wo f true c (R 2 k).toNatClampNeg).1 + 1, wo (R 1 k).toNatClampNeg (ev R V ln tq wd wo f true c (R 2 k).toNatClampNeg).2)
    else if R 0 k = 7 then
      (if (ev R V ln tq wd wo f false c (R 1 k).toNatClampNeg).2.1 = 2 then ((ev R V ln tq wd wo f false c (R 1 k).toNatClampNeg).1 + 1, 0, 0)
       else if (ev R V ln tq wd wo f false c (R 1 k).toNatClampNeg).2.1 = 1 then ((ev R V ln tq wd wo f false c (R 1 k).toNatClampNeg).1 + (ev R V ln tq wd wo f true c (R 2 k).toNatClampNeg).1 + 1, (ev R V ln tq wd wo f true c (R 2 k).toNatClampNeg).2)
       else ((ev R V ln tq wd wo f false c (R 1 k).toNatClampNeg).1 + (ev R V ln tq wd wo f true c (R 3 k).toNatClampNeg).1 + 1, (ev R V ln tq wd wo f true c (R 3 k).toNatClampNeg).2))
    else if R 0 k = 11 then ((ev R V ln tq wd wo f true c (R 1 k).toNatClampNeg).1 + 1, -(ev R V ln tq wd wo f true c (R 1 k).toNatClampNeg).2.1, (ev R V ln tq wd wo f true c (R 1 k).toNatClampNeg).2.2)
    else if R 0 k = 12 ∨ R 0 k = 13 ∨ R 0 k = 14 ∨ R 0 k = 15 then ((ev R V ln tq wd wo f true c (R 1 k).toNatClampNeg).1 + (ev R V ln tq wd wo f true c (R 2 k).toNatClampNeg).1 + 1, fA (if R 0 k = 12 then 0 else if R 0 k = 13 then 1 else if R 0 k = 14 then 2 else 3) (ev R V ln tq wd wo f true c (R 1 k).toNatClampNeg).2.1 (ev R V ln tq wd wo f true c (R 1 k).toNatClampNeg).2.2 (ev R V ln tq wd wo f true c (R 2 k).toNatClampNeg).2.1 (ev R V ln tq wd wo f true c (R 2 k).toNatClampNeg).2.2)
    else if (ev R V ln tq wd wo f true c (R 1 k).toNatClampNeg).2.2 = 1 ∧ (ev R V ln tq wd wo f true c (R 2 k).toNatClampNeg).2.2 = 1 ∧ (ev R V ln tq wd wo f true c (R 2 k).toNatClampNeg).2.1 - (ev R V ln tq wd wo f true c (R 1 k).toNatClampNeg).2.1 < 64
      then ((ev R V ln tq wd wo f true c (R 1 k).toNatClampNeg).1 + (ev R V ln tq wd wo f true c (R 2 k).toNatClampNeg).1 + 1 + (srd (fun v => ev R V ln tq wd wo f true (upZ c k v) (R 3 k).toNatClampNeg) (if R 0 k = 8 then 0 else if R 0 k = 9 then 1 else 2) (ev R V ln tq wd wo f true c (R 1 k).toNatClampNeg).2.1 ((ev R V ln tq wd wo f true c (R 2 k).toNatClampNeg).2.1 - (ev R V ln tq wd wo f true c (R 1 k).toNatClampNeg).2.1 + 1).toNat).1, (srd (fun v => ev R V ln tq wd wo f true (upZ c k v) (R 3 k).toNatClampNeg) (if R 0 k = 8 then 0 else if R 0 k = 9 then 1 else 2) (ev R V ln tq wd wo f true c (R 1 k).toNatClampNeg).2.1 ((ev R V ln tq wd wo f true c (R 2 k).toNatClampNeg).2.1 - (ev R V ln tq wd wo f true c (R 1 k).toNatClampNeg).2.1 + 1).toNat).2)
      else ((ev R V ln tq wd wo f true c (R 1 k).toNatClampNeg).1 + (ev R V ln tq wd wo f true c (R 2 k).toNatClampNeg).1 + 1, 0, 0)
  | f + 1, false, c, k =>
    if R 0 k = 22 then ((ev R V ln tq wd wo f false c (R 1 k).toNatClampNeg).1 + 1, (if (ev R V ln tq wd wo f false c (R 1 k).toNatClampNeg).2.1 = 2 then 2 else 1 - (ev R V ln tq wd wo f false c (R 1 k).toNatClampNeg).2.1), 0)
    else if R 0 k = 20 ∨ R 0 k = 21 then ((ev R V ln tq wd wo f false c (R 1 k).toNatClampNeg).1 + (ev R V ln tq wd wo f false c (R 2 k).toNatClampNeg).1 + 1, vdJ (if R 0 k = 20 then 1 else 0) (ev R V ln tq wd wo f false c (R 1 k).toNatClampNeg).2.1 (ev R V ln tq wd wo f false c (R 2 k).toNatClampNeg).2.1, 0)
    else ((ev R V ln tq wd wo f true c (R 1 k).toNatClampNeg).1 + (ev R V ln tq wd wo f true c (R 2 k).toNatClampNeg).1 + 1, vdQ (R 0 k) (fC (ev R V ln tq wd wo f true c (R 1 k).toNatClampNeg).2.1 (ev R V ln tq wd wo f true c (R 1 k).toNatClampNeg).2.2 (ev R V ln tq wd wo f true c (R 2 k).toNatClampNeg).2.1 (ev R V ln tq wd wo f true c (R 2 k).toNatClampNeg).2.2), 0)
/-- numbers in their bounds -/
abbrev fN (p : Int × Int) : Prop := fB p.1 ∧ 0 ≤ p.2 ∧ p.2 ≤ HG
theorem fN0 : fN (0, 0) := ⟨⟨by decide, by decide⟩, by decide, by decide⟩
theorem fN1 {v : Int} (h : fB v) : fN (v, 1) := ⟨h, (by decide : (0 : Int) ≤ 1), (by decide : (1 : Int) ≤ HG)⟩
theorem fN.d {p : Int × Int} (h : fN p) : fB p.2 := ⟨by have : HG = 1000000000000000000 := rfl; have := h.2.1; omega, h.2.2⟩
theorem fS_1 {v : Int} (h : fB v) : fS v 1 = (v, 1) := by
  have hH : HG = 1000000000000000000 := rfl
  unfold fS
  rw [if_pos ⟨⟨h.2, h.1⟩, ⟨by decide, by decide⟩, by decide⟩]
  have g : Nat.gcd v.natAbs (1 : Int).natAbs = 1 := Nat.gcd_one_right _
  rw [g]
  simp
theorem fT_1 {v : Int} (h : fB v) : fT v 1 = some v := by unfold fT; rw [Int.mul_one, if_pos h]
theorem fT_1' {v : Int} (h : fB v) : fT 1 v = some v := by unfold fT; rw [Int.one_mul, if_pos h]
theorem fA_int {x y : Int} (hx : fB x) (hy : fB y) (h : fB (x - y)) : fA 1 x 1 y 1 = (x - y, 1) := by
  unfold fA
  rw [if_neg (by decide), if_neg (by decide), fT_1 hx, fT_1' hy]
  dsimp only
  rw [if_neg (by decide), fT_1 (show fB 1 from ⟨by decide, by decide⟩)]
  dsimp only
  rw [if_neg (by decide), fS_1 h]
/-- a table's points, and what lies between two of them -/
def tbw (px py : Nat → Int) (p : Int × Int) (i : Nat) : Int × Int := fA 0 (fA 3 (fA 2 (fA 1 p.1 p.2 (px (i - 1)) 1).1 (fA 1 p.1 p.2 (px (i - 1)) 1).2 (py i - py (i - 1)) 1).1 (fA 2 (fA 1 p.1 p.2 (px (i - 1)) 1).1 (fA 1 p.1 p.2 (px (i - 1)) 1).2 (py i - py (i - 1)) 1).2 (px i - px (i - 1)) 1).1 (fA 3 (fA 2 (fA 1 p.1 p.2 (px (i - 1)) 1).1 (fA 1 p.1 p.2 (px (i - 1)) 1).2 (py i - py (i - 1)) 1).1 (fA 2 (fA 1 p.1 p.2 (px (i - 1)) 1).1 (fA 1 p.1 p.2 (px (i - 1)) 1).2 (py i - py (i - 1)) 1).2 (px i - px (i - 1)) 1).2 (py (i - 1)) 1
def tgo (px py : Nat → Int) (p : Int × Int) : Nat → Nat → Int × Int → Int × Int
  | 0, _, a => a
  | r + 1, i, _ => if fC p.1 p.2 (px i) 1 = 2 then (0, 0) else if fC p.1 p.2 (px i) 1 = -1 ∧ 0 < i then tbw px py p i else if fC p.1 p.2 (px i) 1 = 1 then tgo px py p r (i + 1) (py i, 1) else (py i, 1)
def tbl (m : Nat) (px py : Nat → Int) (p : Int × Int) : Int × Int := tgo px py p m 0 (0, 0)
theorem fC_v (a b c f : Int) : fC a b c f = 2 ∨ fC a b c f = -1 ∨ fC a b c f = 0 ∨ fC a b c f = 1 := by
  unfold fC
  by_cases q : b = 0 ∨ f = 0
  · rw [if_pos q]; exact Or.inl rfl
  · rw [if_neg q]
    cases fT a f with
    | none => exact Or.inl rfl
    | some x =>
      cases fT c b with
      | none => exact Or.inl rfl
      | some y =>
        dsimp only
        by_cases q1 : x < y
        · rw [if_pos q1]; exact Or.inr (Or.inl rfl)
        · rw [if_neg q1]
          by_cases q2 : x = y
          · rw [if_pos q2]; exact Or.inr (Or.inr (Or.inl rfl))
          · rw [if_neg q2]; exact Or.inr (Or.inr (Or.inr rfl))
theorem tgo_b {px py : Nat → Int} (hp : ∀ i, fB (py i)) (p : Int × Int) : ∀ r i a, fN a → fN (tgo px py p r i a) := by
  intro r
  induction r with
  | zero => intro i a h; exact h
  | succ r ih =>
    intro i a h
    unfold tgo
    by_cases q1 : fC p.1 p.2 (px i) 1 = 2
    · rw [if_pos q1]; exact fN0
    · rw [if_neg q1]
      by_cases q2 : fC p.1 p.2 (px i) 1 = -1 ∧ 0 < i
      · rw [if_pos q2]; exact fA_b _ _ _ _ _
      · rw [if_neg q2]
        by_cases q3 : fC p.1 p.2 (px i) 1 = 1
        · rw [if_pos q3]; exact ih _ _ (fN1 (hp i))
        · rw [if_neg q3]; exact fN1 (hp i)
theorem srd_b {e : Int → Nat × Int × Int} (he : ∀ v, fN (e v).2) (kind : Nat) (a : Int) : ∀ j, fN (srd e kind a j).2 := by
  intro j
  induction j with
  | zero =>
    show fN (0, if kind = 0 then 1 else 0)
    by_cases q : kind = 0
    · rw [if_pos q]; exact fN1 ⟨by decide, by decide⟩
    · rw [if_neg q]; exact fN0
  | succ j ih =>
    unfold srd
    by_cases q : kind = 0
    · rw [if_pos q]; exact fA_b _ _ _ _ _
    · rw [if_neg q]
      by_cases q1 : j = 0
      · rw [if_pos q1]; exact he _
      · rw [if_neg q1]
        by_cases q2 : fC (e (a + j)).2.1 (e (a + j)).2.2 (srd e kind a j).2.1 (srd e kind a j).2.2 = 2
        · rw [if_pos q2]; exact fN0
        · rw [if_neg q2]
          by_cases q3 : fC (e (a + j)).2.1 (e (a + j)).2.2 (srd e kind a j).2.1 (srd e kind a j).2.2 = (if kind = 1 then 1 else -1)
          · rw [if_pos q3]; exact he _
          · rw [if_neg q3]; exact ih
end EVAC
