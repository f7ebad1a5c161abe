/-! RULES: meanings stay in their bounds -/
section EVAF
variable {R : Nat → Nat → Int32} {V : Nat → Int64} {ln : Nat → Nat} {tq : Nat → Int × Int → Int × Int} {wd : Nat → Int × Int} {wo : Nat → Int × Int → Int × Int}
variable {C : Nat → Nat → Int32} {nl nt : Nat} {wl : Nat → Nat}
theorem srd_b2 {e : Int → Nat × Int × Int} (kind : Nat) (a : Int) : ∀ m : Nat, (∀ j : Nat, j < m → fN (e (a + j)).2) → fN (srd e kind a m).2 := by
  intro m
  induction m with
  | zero =>
    intro _
    show fN (0, if kind = 0 then 1 else 0)
    by_cases q : kind = 0
    · rw [if_pos q]; exact fN1 ⟨by decide, by decide⟩
    · rw [if_neg q]; exact fN0
  | succ j ih =>
    intro he
    have ih := ih (fun i hi => he i (by omega))
    have he := he j (by omega)
    unfold srd
    by_cases q : kind = 0
    · rw [if_pos q]; exact fA_b _ _ _ _ _
    · rw [if_neg q]
      by_cases q1 : j = 0
      · rw [if_pos q1]; exact he
      · rw [if_neg q1]
        by_cases q2 : fC (e (a + j)).2.1 (e (a + j)).2.2 (srd e kind a j).2.1 (srd e kind a j).2.2 = 2
        · rw [if_pos q2]; exact fN0
        · rw [if_neg q2]
          by_cases q3 : fC (e (a + j)).2.1 (e (a + j)).2.2 (srd e kind a j).2.1 (srd e kind a j).2.2 = (if kind = 1 then 1 else -1)
          · rw [if_pos q3]; exact he
          · rw [if_neg q3]; exact ih
def v3 (v : Int) : Prop := v = 0 ∨ v = 1 ∨ v = 2
theorem vdQ_3 (op o : Int32) : v3 (vdQ op o) := by
  unfold vdQ v3
  by_cases h0 : o = 2
  · simp [h0]
  · simp only [h0, if_false]
    by_cases h1 : op = 23
    · simp only [h1, if_true]; by_cases q : o = 0 <;> simp [q]
    · simp only [h1, if_false]
      by_cases h2 : op = 24
      · simp only [h2, if_true]; by_cases q : o = 0 <;> simp [q]
      · simp only [h2, if_false]
        by_cases h3 : op = 25
        · simp only [h3, if_true]; by_cases q : o < 0 <;> simp [q]
        · simp only [h3, if_false]
          by_cases h4 : op = 26
          · simp only [h4, if_true]; by_cases q : 0 < o <;> simp [q]
          · simp only [h4, if_false]
            by_cases h5 : op = 27
            · simp only [h5, if_true]; by_cases q : 0 < o <;> simp [q]
            · simp only [h5, if_false]; by_cases q : o < 0 <;> simp [q]
theorem vdJ_3 {st x y : Int} (h : st = 0 ∨ st = 1) : v3 (vdJ st x y) := by
  unfold vdJ v3
  by_cases q1 : x = st ∨ y = st
  · rw [if_pos q1]; omega
  · rw [if_neg q1]
    by_cases q2 : x = 2 ∨ y = 2
    · rw [if_pos q2]; omega
    · rw [if_neg q2]; omega
/-- bounds -/
def evB (b : Bool) (p : Nat × Int × Int) : Prop := (b = true → fN p.2) ∧ (b = false → v3 p.2.1)
theorem ev_bd (hn : nl ≤ 40) (hl : ltR C R V nl wl ln) (w1 : ∀ w, w < 13 → fN (wd w)) (w2 : ∀ w p, w < 11 → fN (wo w p)) (w3 : ∀ i p, i < nt → fN (tq i p)) (hnt : nt ≤ 8) (hlt : ∀ i, i < nl → ∃ n mt, mt ≤ nt ∧ rel C R V i mt (wl i) 75 true (wl (i + 1)) 0 rho0 n (ln i)) : ∀ w, (∀ (m mt h : Nat) (b : Bool) (s : Nat) (rho : Nat → Nat) (n k : Nat), m ≤ nl → mt ≤ nt → rel C R V m mt (wl m) h b w s rho n k → ∀ f (c : Nat → Int), w ≤ f → (∀ i, i < s → fB (c (rho i))) → evB b (ev R V ln tq wd wo f b c k)) ∧ (∀ (m mt h : Nat) (b : Bool) (kd j s : Nat) (rho : Nat → Nat) (n last k : Nat), m ≤ nl → mt ≤ nt → kdC b kd → chL C R kd (fun w' n' k' => rel C R V m mt (wl m) h b w' s rho n' k') j w n last k → ∀ f (c : Nat → Int), w ≤ f → (∀ i, i < s → fB (c (rho i))) → evB b (ev R V ln tq wd wo f b c k)) := by
  intro w
  induction w using Nat.strongRecOn with
  | _ w ih =>
    have cB : ∀ (m mt h : Nat) (b : Bool) (kd j s : Nat) (rho : Nat → Nat) (n last k : Nat), m ≤ nl → mt ≤ nt → kdC b kd → chL C R kd (fun w' n' k' => rel C R V m mt (wl m) h b w' s rho n' k') j w n last k → ∀ f (c : Nat → Int), w ≤ f → (∀ i, i < s → fB (c (rho i))) → evB b (ev R V ln tq wd wo f b c k) := by
      intro m mt h b kd j s rho n last k hm hmt hk hc f c hf hcc
      have w0 : 0 < w ∧ opC kd (C 4 last) (R 0 k) := by
        cases j with
        | zero => obtain ⟨a1, a2, a3, a4, a5, w', n1, k1, n2, k2, b1, _⟩ := hc; exact ⟨by omega, by rw [a1]; exact a5⟩
        | succ j => obtain ⟨a1, a2, a3, a4, w', l', k', n2, k2, b1, _⟩ := hc; exact ⟨by omega, a4⟩
      obtain ⟨w0, op⟩ := w0
      obtain ⟨f, rfl⟩ : ∃ g, f = g + 1 := ⟨f - 1, by omega⟩
      rcases hk with ⟨rfl, rfl⟩ | ⟨rfl, hk⟩
      · refine ⟨fun _ => ?_, fun z => by cases z⟩
        rw [ev_t]
        rcases op with ⟨_, op⟩ | ⟨op, _⟩ | ⟨op, _⟩
        · rcases op with ⟨_, op⟩ | ⟨_, op⟩ | ⟨_, op⟩ | ⟨_, op⟩ <;> rw [op] <;> exact fA_b _ _ _ _ _
        · exact absurd op (by decide)
        · exact absurd op (by decide)
      · refine ⟨fun z => by (first | (cases z; done) | exact absurd z (by decide)), fun _ => ?_⟩
        rw [ev_f]
        rcases op with ⟨op, _⟩ | ⟨_, op⟩ | ⟨_, op⟩
        · omega
        · rw [op]; exact vdJ_3 (Or.inr rfl)
        · rw [op]; exact vdJ_3 (Or.inl rfl)
    refine ⟨?_, cB⟩
    intro m mt h b s rho n k hm hmt hr f c hf hcc
    cases h with
    | zero => exact hr.elim
    | succ h =>
      obtain ⟨a1, a2, z⟩ := hr
      rcases z with ⟨kd, j, last, c1, c2, c3⟩ | ⟨w', lw, z⟩
      · exact cB m mt h b kd j s rho n last k hm hmt c1 c2 f c hf hcc
      obtain ⟨f, rfl⟩ : ∃ g, f = g + 1 := ⟨f - 1, by omega⟩
      have sub : ∀ (b' : Bool) (n1 k1 : Nat), rel C R V m mt (wl m) h b' w' s rho n1 k1 → evB b' (ev R V ln tq wd wo f b' c k1) := fun b' n1 k1 q => (ih w' lw).1 m mt h b' s rho n1 k1 hm hmt q f c (by omega) hcc
      rcases z with ⟨rfl, z⟩ | ⟨rfl, z⟩
      · refine ⟨fun _ => ?_, fun z => by cases z⟩
        rw [ev_t]
        rcases z with ⟨_, o, v, v1, _, v2⟩ | ⟨_, o, i, i1, _, i2, i3⟩ | ⟨_, o, i, i1, _, i2, i3⟩ | ⟨_, o, i, n1, k1, i1, _, e1, _, e2, q⟩ | ⟨_, o, i, i1, _, e1⟩ | ⟨_, o, i, n1, k1, i1, _, e1, _, e2, q⟩ | ⟨_, o, n1, k1, _, e1, q⟩ | ⟨_, o, n1, k1, n2, k2, n3, k3, _, e1, q1, _, e2, q2, _, e3, q3⟩ | ⟨i, n1, k1, n2, k2, n3, k3, w2', i3, _, o, _, _, lw2, _, e1, q1, _, e2, q2, _, e3, q3, hne⟩
        · rw [if_pos o]
          refine fN1 ?_
          rw [v2, lgN_toInt (by omega)]
          have hH : HG = 1000000000000000000 := rfl
          exact ⟨by omega, by omega⟩
        · rw [if_neg (by rw [o]; decide), if_pos o, nN i2 i3]; exact fN1 (hcc i i1)
        · obtain ⟨n1, mt1, hmt1, q⟩ := hlt i (by omega)
          have q4 : (R 1 k).toNatClampNeg = i := by rw [i2]; exact nI_clamp (by omega)
          rw [if_neg (by rw [o]; decide), if_neg (by rw [o]; decide), if_pos o, q4]
          exact ((ih (wl (i + 1)) (by have := hl.1 (i + 1) m (by omega); omega)).1 i mt1 75 true 0 rho0 n1 (ln i) (by omega) hmt1 q f c (by have := hl.1 (i + 1) m (by omega); omega) (fun i hi => absurd hi (Nat.not_lt_zero _))).1 rfl
        · have q4 : (R 1 k).toNatClampNeg = i := by rw [e1]; exact nI_clamp (by omega)
          rw [if_neg (by rw [o]; decide), if_neg (by rw [o]; decide), if_neg (by rw [o]; decide), if_pos o, q4]; exact w3 i _ (by omega)
        · have q4 : (R 1 k).toNatClampNeg = i := by rw [e1]; exact nI_clamp (by omega)
          rw [if_neg (by rw [o]; decide), if_neg (by rw [o]; decide), if_neg (by rw [o]; decide), if_neg (by rw [o]; decide), if_pos o, q4]; exact w1 i i1
        · have q4 : (R 1 k).toNatClampNeg = i := by rw [e1]; exact nI_clamp (by omega)
          rw [if_neg (by rw [o]; decide), if_neg (by rw [o]; decide), if_neg (by rw [o]; decide), if_neg (by rw [o]; decide), if_neg (by rw [o]; decide), if_pos o, q4]; exact w2 i _ i1
        · have t1 := (sub true n1 k1 q).1 rfl
          rw [← nN e1 (rel_k q).2] at t1
          rw [if_neg (by rw [o]; decide), if_neg (by rw [o]; decide), if_neg (by rw [o]; decide), if_neg (by rw [o]; decide), if_neg (by rw [o]; decide), if_neg (by rw [o]; decide), if_neg (by rw [o]; decide), if_pos o]
          exact ⟨⟨by have := t1.1.2; show -HG ≤ -_; omega, by have := t1.1.1; show -_ ≤ HG; omega⟩, t1.2⟩
        · have t2 := (sub true n2 k2 q2).1 rfl
          have t3 := (sub true n3 k3 q3).1 rfl
          rw [← nN e2 (rel_k q2).2] at t2
          rw [← nN e3 (rel_k q3).2] at t3
          rw [if_neg (by rw [o]; decide), if_neg (by rw [o]; decide), if_neg (by rw [o]; decide), if_neg (by rw [o]; decide), if_neg (by rw [o]; decide), if_neg (by rw [o]; decide), if_pos o]
          by_cases z1 : (ev R V ln tq wd wo f false c (R 1 k).toNatClampNeg).2.1 = 2
          · rw [if_pos z1]; exact fN0
          · rw [if_neg z1]
            by_cases z2 : (ev R V ln tq wd wo f false c (R 1 k).toNatClampNeg).2.1 = 1
            · rw [if_pos z2]; exact t2
            · rw [if_neg z2]; exact t3
        · have t1 := ((ih w2' (by omega)).1 m mt h true s rho n1 k1 hm hmt q1 f c (by omega) hcc).1 rfl
          have t2 := ((ih w2' (by omega)).1 m mt h true s rho n2 k2 hm hmt q2 f c (by omega) hcc).1 rfl
          rw [← nN e1 (rel_k q1).2] at t1
          rw [← nN e2 (rel_k q2).2] at t2
          have no : ∀ j : Int32, (j = 1 ∨ j = 2 ∨ j = 3 ∨ j = 4 ∨ j = 5 ∨ j = 6 ∨ j = 7 ∨ j = 11 ∨ j = 12 ∨ j = 13 ∨ j = 14 ∨ j = 15) → R 0 k ≠ j := by
            intro j hj z
            rw [o] at z
            subst z
            rcases (show i = 0 ∨ i = 1 ∨ i = 2 by omega) with y | y | y <;> subst y <;> exact absurd hj (by decide)
          rw [if_neg (no 1 (by decide)), if_neg (no 2 (by decide)), if_neg (no 3 (by decide)), if_neg (no 4 (by decide)), if_neg (no 5 (by decide)), if_neg (no 6 (by decide)), if_neg (no 7 (by decide)), if_neg (no 11 (by decide)), if_neg (show ¬ (R 0 k = 12 ∨ R 0 k = 13 ∨ R 0 k = 14 ∨ R 0 k = 15) from fun z => by rcases z with z | z | z | z; exact no 12 (by decide) z; exact no 13 (by decide) z; exact no 14 (by decide) z; exact no 15 (by decide) z)]
          by_cases z1 : (ev R V ln tq wd wo f true c (R 1 k).toNatClampNeg).2.2 = 1 ∧ (ev R V ln tq wd wo f true c (R 2 k).toNatClampNeg).2.2 = 1 ∧ (ev R V ln tq wd wo f true c (R 2 k).toNatClampNeg).2.1 - (ev R V ln tq wd wo f true c (R 1 k).toNatClampNeg).2.1 < 64
          · rw [if_pos z1]
            refine srd_b2 _ _ _ (fun j hj => ?_)
            rw [nN e3 (rel_k q3).2]
            refine ((ih w2' (by omega)).1 m mt h true (s + 1) (upN rho s k) n3 k3 hm hmt q3 f _ (by omega) (fun i hi => ?_)).1 rfl
            by_cases z : i = s
            · subst z; rw [upN_o]; unfold upZ; rw [if_pos rfl]
              have := t1.1.1
              have := t2.1.2
              exact ⟨by omega, by omega⟩
            · rw [upN_n rho z]; unfold upZ; rw [if_neg (hne i (by omega))]; exact hcc i (by omega)
          · rw [if_neg z1]; exact fN0
      · refine ⟨fun z => by (first | (cases z; done) | exact absurd z (by decide)), fun _ => ?_⟩
        rw [ev_f]
        rcases z with ⟨_, o, n1, k1, _, e1, q⟩ | ⟨_, o, n1, k1, n2, k2, _, e1, q1, _, e2, q2⟩
        · have t1 := (sub false n1 k1 q).2 rfl
          rw [← nN e1 (rel_k q).2] at t1
          rw [if_pos o]
          show v3 (if (ev R V ln tq wd wo f false c (R 1 k).toNatClampNeg).2.1 = 2 then 2 else 1 - (ev R V ln tq wd wo f false c (R 1 k).toNatClampNeg).2.1)
          unfold v3 at t1 ⊢
          by_cases z : (ev R V ln tq wd wo f false c (R 1 k).toNatClampNeg).2.1 = 2
          · rw [if_pos z]; omega
          · rw [if_neg z]; omega
        · rw [if_neg (by rcases o with ⟨_, o⟩ | ⟨_, o⟩ | ⟨_, o⟩ | ⟨_, o⟩ | ⟨_, o⟩ | ⟨_, o⟩ <;> rw [o] <;> decide), if_neg (by rcases o with ⟨_, o⟩ | ⟨_, o⟩ | ⟨_, o⟩ | ⟨_, o⟩ | ⟨_, o⟩ | ⟨_, o⟩ <;> rw [o] <;> decide)]
          exact vdQ_3 _ _
end EVAF
