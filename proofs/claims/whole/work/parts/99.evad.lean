/-! RULES: a meaning doesn't hang on how far it is looked for -/
section EVAD
variable {R : Nat → Nat → Int32} {V : Nat → Int64} {ln : Nat → Nat} {tq : Nat → Int × Int → Int × Int} {wd : Nat → Int × Int} {wo : Nat → Int × Int → Int × Int}
theorem ev_t (f : Nat) (c : Nat → Int) (k : Nat) : ev R V ln tq wd wo (f + 1) true c k =
    if R 0 k = 1 then (1, (V k).toInt, 1)
    else if R 0 k = 2 then (1, c (R 1 k).toNatClampNeg, 1)
    else if R 0 k = 3 then ((ev R V ln tq wd wo f true c (ln (R 1 k).toNatClampNeg)).1 + 1, (ev R V ln tq wd wo f true c (ln (R 1 k).toNatClampNeg)).2)
    else if R 0 k = 4 then ((ev R V ln tq wd wo f true c (R 2 k).toNatClampNeg).1 + 1, tq (R 1 k).toNatClampNeg (ev R V ln tq wd wo f true c (R 2 k).toNatClampNeg).2)
    else if R 0 k = 5 then (1, wd (R 1 k).toNatClampNeg)
    else if R 0 k = 6 then ((ev R V ln tq wd wo f true c (R 2 k).toNatClampNeg).1 + 1, wo (R 1 k).toNatClampNeg (ev R V ln tq wd wo f true c (R 2 k).toNatClampNeg).2)
    else if R 0 k = 7 then
      (if (ev R V ln tq wd wo f false c (R 1 k).toNatClampNeg).2.1 = 2 then ((ev R V ln tq wd wo f false c (R 1 k).toNatClampNeg).1 + 1, 0, 0)
       else if (ev R V ln tq wd wo f false c (R 1 k).toNatClampNeg).2.1 = 1 then ((ev R V ln tq wd wo f false c (R 1 k).toNatClampNeg).1 + (ev R V ln tq wd wo f true c (R 2 k).toNatClampNeg).1 + 1, (ev R V ln tq wd wo f true c (R 2 k).toNatClampNeg).2)
       else ((ev R V ln tq wd wo f false c (R 1 k).toNatClampNeg).1 + (ev R V ln tq wd wo f true c (R 3 k).toNatClampNeg).1 + 1, (ev R V ln tq wd wo f true c (R 3 k).toNatClampNeg).2))
    else if R 0 k = 11 then ((ev R V ln tq wd wo f true c (R 1 k).toNatClampNeg).1 + 1, -(ev R V ln tq wd wo f true c (R 1 k).toNatClampNeg).2.1, (ev R V ln tq wd wo f true c (R 1 k).toNatClampNeg).2.2)
    else if R 0 k = 12 ∨ R 0 k = 13 ∨ R 0 k = 14 ∨ R 0 k = 15 then ((ev R V ln tq wd wo f true c (R 1 k).toNatClampNeg).1 + (ev R V ln tq wd wo f true c (R 2 k).toNatClampNeg).1 + 1, fA (if R 0 k = 12 then 0 else if R 0 k = 13 then 1 else if R 0 k = 14 then 2 else 3) (ev R V ln tq wd wo f true c (R 1 k).toNatClampNeg).2.1 (ev R V ln tq wd wo f true c (R 1 k).toNatClampNeg).2.2 (ev R V ln tq wd wo f true c (R 2 k).toNatClampNeg).2.1 (ev R V ln tq wd wo f true c (R 2 k).toNatClampNeg).2.2)
    else if (ev R V ln tq wd wo f true c (R 1 k).toNatClampNeg).2.2 = 1 ∧ (ev R V ln tq wd wo f true c (R 2 k).toNatClampNeg).2.2 = 1 ∧ (ev R V ln tq wd wo f true c (R 2 k).toNatClampNeg).2.1 - (ev R V ln tq wd wo f true c (R 1 k).toNatClampNeg).2.1 < 64
      then ((ev R V ln tq wd wo f true c (R 1 k).toNatClampNeg).1 + (ev R V ln tq wd wo f true c (R 2 k).toNatClampNeg).1 + 1 + (srd (fun v => ev R V ln tq wd wo f true (upZ c k v) (R 3 k).toNatClampNeg) (if R 0 k = 8 then 0 else if R 0 k = 9 then 1 else 2) (ev R V ln tq wd wo f true c (R 1 k).toNatClampNeg).2.1 ((ev R V ln tq wd wo f true c (R 2 k).toNatClampNeg).2.1 - (ev R V ln tq wd wo f true c (R 1 k).toNatClampNeg).2.1 + 1).toNat).1, (srd (fun v => ev R V ln tq wd wo f true (upZ c k v) (R 3 k).toNatClampNeg) (if R 0 k = 8 then 0 else if R 0 k = 9 then 1 else 2) (ev R V ln tq wd wo f true c (R 1 k).toNatClampNeg).2.1 ((ev R V ln tq wd wo f true c (R 2 k).toNatClampNeg).2.1 - (ev R V ln tq wd wo f true c (R 1 k).toNatClampNeg).2.1 + 1).toNat).2)
      else ((ev R V ln tq wd wo f true c (R 1 k).toNatClampNeg).1 + (ev R V ln tq wd wo f true c (R 2 k).toNatClampNeg).1 + 1, 0, 0) := by
  conv => lhs; unfold ev
theorem ev_f (f : Nat) (c : Nat → Int) (k : Nat) : ev R V ln tq wd wo (f + 1) false c k =
    if R 0 k = 22 then ((ev R V ln tq wd wo f false c (R 1 k).toNatClampNeg).1 + 1, (if (ev R V ln tq wd wo f false c (R 1 k).toNatClampNeg).2.1 = 2 then 2 else 1 - (ev R V ln tq wd wo f false c (R 1 k).toNatClampNeg).2.1), 0)
    else if R 0 k = 20 ∨ R 0 k = 21 then ((ev R V ln tq wd wo f false c (R 1 k).toNatClampNeg).1 + (ev R V ln tq wd wo f false c (R 2 k).toNatClampNeg).1 + 1, vdJ (if R 0 k = 20 then 1 else 0) (ev R V ln tq wd wo f false c (R 1 k).toNatClampNeg).2.1 (ev R V ln tq wd wo f false c (R 2 k).toNatClampNeg).2.1, 0)
    else ((ev R V ln tq wd wo f true c (R 1 k).toNatClampNeg).1 + (ev R V ln tq wd wo f true c (R 2 k).toNatClampNeg).1 + 1, vdQ (R 0 k) (fC (ev R V ln tq wd wo f true c (R 1 k).toNatClampNeg).2.1 (ev R V ln tq wd wo f true c (R 1 k).toNatClampNeg).2.2 (ev R V ln tq wd wo f true c (R 2 k).toNatClampNeg).2.1 (ev R V ln tq wd wo f true c (R 2 k).toNatClampNeg).2.2), 0) := by
  conv => lhs; unfold ev
theorem srd_congr {e e' : Int → Nat × Int × Int} (h : ∀ v, e v = e' v) (kind : Nat) (a : Int) (j : Nat) : srd e kind a j = srd e' kind a j := by
  rw [show e = e' from funext h]
variable {C : Nat → Nat → Int32} {nl : Nat} {wl : Nat → Nat}
/-- lets mean what their nodes say -/
def ltR (C R : Nat → Nat → Int32) (V : Nat → Int64) (nl : Nat) (wl ln : Nat → Nat) : Prop := (∀ i j, i ≤ j → wl i ≤ wl j) ∧ ∀ i, i < nl → ln i < 1400 ∧ ∃ n mt, rel C R V i mt (wl i) 75 true (wl (i + 1)) 0 rho0 n (ln i)
theorem rel_k {h b w s n k m mt lam} {rho : Nat → Nat} (z : rel C R V m mt lam h b w s rho n k) : n < 1201 ∧ k < 1400 := by
  cases h with
  | zero => exact z.elim
  | succ h => exact ⟨z.1, z.2.1⟩
theorem nN {x : Int32} {k : Nat} (h : x = nI k) (hk : k < 1400) : x.toNatClampNeg = k := by rw [h]; exact nI_clamp (by omega)
theorem ev_cg (hn : nl ≤ 40) (hl : ltR C R V nl wl ln) : ∀ w, (∀ (m mt h : Nat) (b : Bool) (s : Nat) (rho : Nat → Nat) (n k : Nat), m ≤ nl → rel C R V m mt (wl m) h b w s rho n k → ∀ f f' (c c' : Nat → Int), w ≤ f → w ≤ f' → (∀ i, i < s → c (rho i) = c' (rho i)) → ev R V ln tq wd wo f b c k = ev R V ln tq wd wo f' b c' k) ∧ (∀ (m mt h : Nat) (b : Bool) (kd j s : Nat) (rho : Nat → Nat) (n last k : Nat), m ≤ nl → kdC b kd → chL C R kd (fun w' n' k' => rel C R V m mt (wl m) h b w' s rho n' k') j w n last k → ∀ f f' (c c' : Nat → Int), w ≤ f → w ≤ f' → (∀ i, i < s → c (rho i) = c' (rho i)) → ev R V ln tq wd wo f b c k = ev R V ln tq wd wo f' b c' k) := by
  intro w
  induction w using Nat.strongRecOn with
  | _ w ih =>
    -- links of a chain
    have cB : ∀ (m mt h : Nat) (b : Bool) (kd j s : Nat) (rho : Nat → Nat) (n last k : Nat), m ≤ nl → kdC b kd → chL C R kd (fun w' n' k' => rel C R V m mt (wl m) h b w' s rho n' k') j w n last k → ∀ f f' (c c' : Nat → Int), w ≤ f → w ≤ f' → (∀ i, i < s → c (rho i) = c' (rho i)) → ev R V ln tq wd wo f b c k = ev R V ln tq wd wo f' b c' k := by
      intro m mt h b kd j s rho n last k hm hk hc f f' c c' hf hf' hcc
      have two : ∃ w' k1 k2, w' < w ∧ opC kd (C 4 last) (R 0 k) ∧ R 1 k = nI k1 ∧ k1 < 1400 ∧ R 2 k = nI k2 ∧ k2 < 1400 ∧ (∀ f f' (c c' : Nat → Int), w' ≤ f → w' ≤ f' → (∀ i, i < s → c (rho i) = c' (rho i)) → ev R V ln tq wd wo f b c k1 = ev R V ln tq wd wo f' b c' k1) ∧ (∀ f f' (c c' : Nat → Int), w' ≤ f → w' ≤ f' → (∀ i, i < s → c (rho i) = c' (rho i)) → ev R V ln tq wd wo f b c k2 = ev R V ln tq wd wo f' b c' k2) := by
        cases j with
        | zero =>
          obtain ⟨a1, a2, a3, a4, a5, w', n1, k1, n2, k2, b1, b2, b3, b4, b5, b6, b7⟩ := hc
          exact ⟨w', k1, k2, b1, by rw [a1]; exact a5, b3, (rel_k b4).2, b6, (rel_k b7).2, (ih w' b1).1 m mt h b s rho n1 k1 hm b4, (ih w' b1).1 m mt h b s rho n2 k2 hm b7⟩
        | succ j =>
          obtain ⟨a1, a2, a3, a4, w', l', k', n2, k2, b1, b2, b3, b4, b5, b6, b7⟩ := hc
          exact ⟨w', k', k2, b1, a4, b4, (chL_n _ _ _ _ _ b2).2, b6, (rel_k b7).2, (ih w' b1).2 m mt h b kd j s rho n l' k' hm hk b2, (ih w' b1).1 m mt h b s rho n2 k2 hm b7⟩
      obtain ⟨w', k1, k2, lt, op, e1, l1, e2, l2, s1, s2⟩ := two
      obtain ⟨f, rfl⟩ : ∃ g, f = g + 1 := ⟨f - 1, by omega⟩
      obtain ⟨f', rfl⟩ : ∃ g, f' = g + 1 := ⟨f' - 1, by omega⟩
      have t1 := s1 f f' c c' (by omega) (by omega) hcc
      have t2 := s2 f f' c c' (by omega) (by omega) hcc
      rcases hk with ⟨rfl, rfl⟩ | ⟨rfl, hk⟩
      · rw [ev_t, ev_t, nN e1 l1, nN e2 l2, t1, t2]
        rcases op with ⟨_, op⟩ | ⟨op, _⟩ | ⟨op, _⟩
        · rcases op with ⟨_, op⟩ | ⟨_, op⟩ | ⟨_, op⟩ | ⟨_, op⟩ <;> rw [op] <;> rfl
        · exact absurd op (by decide)
        · exact absurd op (by decide)
      · rw [ev_f, ev_f, nN e1 l1, nN e2 l2, t1, t2]
        rcases op with ⟨op, _⟩ | ⟨_, op⟩ | ⟨_, op⟩
        · omega
        · rw [op]; rfl
        · rw [op]; rfl
    refine ⟨?_, cB⟩
    intro m mt h b s rho n k hm hr f f' c c' hf hf' hcc
    cases h with
    | zero => exact hr.elim
    | succ h =>
      obtain ⟨a1, a2, z⟩ := hr
      rcases z with ⟨kd, j, last, c1, c2, c3⟩ | ⟨w', lw, z⟩
      · exact cB m mt h b kd j s rho n last k hm c1 c2 f f' c c' hf hf' hcc
      obtain ⟨f, rfl⟩ : ∃ g, f = g + 1 := ⟨f - 1, by omega⟩
      obtain ⟨f', rfl⟩ : ∃ g, f' = g + 1 := ⟨f' - 1, by omega⟩
      have sub : ∀ (b' : Bool) (n1 k1 : Nat), rel C R V m mt (wl m) h b' w' s rho n1 k1 → ev R V ln tq wd wo f b' c k1 = ev R V ln tq wd wo f' b' c' k1 := fun b' n1 k1 q => (ih w' lw).1 m mt h b' s rho n1 k1 hm q f f' c c' (by omega) (by omega) hcc
      rcases z with ⟨rfl, z⟩ | ⟨rfl, z⟩
      · rw [ev_t, ev_t]
        rcases z with ⟨_, o, _⟩ | ⟨_, o, i, i1, _, i2, i3⟩ | ⟨_, o, i, i1, _, i2, i3⟩ | ⟨_, o, i, n1, k1, _, _, e1, _, e2, q⟩ | ⟨_, o, i, _, _, e1⟩ | ⟨_, o, i, n1, k1, _, _, e1, _, e2, q⟩ | ⟨_, o, n1, k1, _, e1, q⟩ | ⟨_, o, n1, k1, n2, k2, n3, k3, _, e1, q1, _, e2, q2, _, e3, q3⟩ | ⟨i, n1, k1, n2, k2, n3, k3, w2, i3, _, o, _, _, lw2, _, e1, q1, _, e2, q2, _, e3, q3, hne⟩
        · rw [o]; rfl
        · rw [o, nN i2 i3, hcc i i1]; rfl
        · -- a let
          obtain ⟨l1, n1, mt1, q⟩ := hl.2 i (by omega)
          have q2 := (ih (wl (i + 1)) (by have := hl.1 (i + 1) m (by omega); omega)).1 i mt1 75 true 0 rho0 n1 (ln i) (by omega) q f f' c c' (by have := hl.1 (i + 1) m (by omega); omega) (by have := hl.1 (i + 1) m (by omega); omega) (fun i hi => absurd hi (Nat.not_lt_zero _))
          have q4 : (R 1 k).toNatClampNeg = i := by rw [i2]; exact nI_clamp (by omega)
          rw [o, q4, q2]
          rfl
        · rw [o, nN e2 (rel_k q).2, sub true n1 k1 q]; rfl
        · rw [o]; rfl
        · rw [o, nN e2 (rel_k q).2, sub true n1 k1 q]; rfl
        · rw [o, nN e1 (rel_k q).2, sub true n1 k1 q]; rfl
        · rw [o, nN e1 (rel_k q1).2, nN e2 (rel_k q2).2, nN e3 (rel_k q3).2, sub false n1 k1 q1, sub true n2 k2 q2, sub true n3 k3 q3]; rfl
        · have t1 := (ih w2 (by omega)).1 m mt h true s rho n1 k1 hm q1 f f' c c' (by omega) (by omega) hcc
          have t2 := (ih w2 (by omega)).1 m mt h true s rho n2 k2 hm q2 f f' c c' (by omega) (by omega) hcc
          have t3 : ∀ v, ev R V ln tq wd wo f true (upZ c k v) k3 = ev R V ln tq wd wo f' true (upZ c' k v) k3 := fun v => (ih w2 (by omega)).1 m mt h true (s + 1) (upN rho s k) n3 k3 hm q3 f f' _ _ (by omega) (by omega) (fun i hi => by
            by_cases z : i = s
            · subst z; rw [upN_o]; unfold upZ; rw [if_pos rfl, if_pos rfl]
            · rw [upN_n rho z]; unfold upZ; rw [if_neg (hne i (by omega)), if_neg (hne i (by omega))]; exact hcc i (by omega))
          rw [nN e1 (rel_k q1).2, nN e2 (rel_k q2).2, nN e3 (rel_k q3).2, t1, t2]
          simp only [t3]
          rcases (show i = 0 ∨ i = 1 ∨ i = 2 by omega) with z | z | z <;> subst z <;> rw [o] <;> rfl
      · rw [ev_f, ev_f]
        rcases z with ⟨_, o, n1, k1, _, e1, q⟩ | ⟨_, o, n1, k1, n2, k2, _, e1, q1, _, e2, q2⟩
        · rw [o, nN e1 (rel_k q).2, sub false n1 k1 q]; rfl
        · rw [nN e1 (rel_k q1).2, nN e2 (rel_k q2).2, sub true n1 k1 q1, sub true n2 k2 q2]
          rcases o with ⟨_, o⟩ | ⟨_, o⟩ | ⟨_, o⟩ | ⟨_, o⟩ | ⟨_, o⟩ | ⟨_, o⟩ <;> rw [o] <;> rfl
end EVAD
