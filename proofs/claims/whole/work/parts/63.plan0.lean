/-! WORK PLANNED: days by numbers -/
def ibit (u : Nat) (x : Int32) : Prop := x.toBitVec.getLsbD u = true
theorem ibit_no {x : Int32} {u : Nat} (hu : u < 32) : ((x >>> (nI u &&& 31)) &&& 1) = 0 ↔ ¬ ibit u x := by
  rw [i_shr x hu]
  unfold ibit
  simp
theorem ibit_1 {x : Int32} {u : Nat} (hu : u < 32) : ((x >>> (nI u &&& 31)) &&& 1) = 1 ↔ ibit u x := by
  constructor
  · intro h
    apply Classical.byContradiction
    intro q
    rw [(ibit_no hu).mpr q] at h
    exact absurd h (by decide)
  · intro h
    have h1 : ¬ ((x >>> (nI u &&& 31)) &&& 1) = 0 := fun q => (ibit_no hu).mp q h
    generalize (x >>> (nI u &&& 31)) = y at h1
    apply Int32.toBitVec_inj.mp
    apply BitVec.eq_of_getLsbD_eq
    intro i hi
    have hy : y.toBitVec.getLsbD 0 = true := by
      cases hq : y.toBitVec.getLsbD 0 with
      | true => rfl
      | false => exact absurd ((i_and1 y).mpr hq) h1
    rw [Int32.toBitVec_and, BitVec.getLsbD_and]
    by_cases h0 : i = 0
    · subst h0
      rw [hy]
      rfl
    · have : (1 : Int32).toBitVec.getLsbD i = false := by
        show (1#32).getLsbD i = false
        simp [h0]
      rw [this, Bool.and_false]
theorem ibit_sub {x y : Int32} (h : x &&& (y ^^^ (-1)) = 0) {u : Nat} (hu : u < 32) (hx : ibit u x) : ibit u y := by
  unfold ibit at hx ⊢
  have h2 := congrArg (fun z : Int32 => z.toBitVec.getLsbD u) h
  have h3 : ((-1 : Int32)).toBitVec.getLsbD u = true := by
    show (BitVec.allOnes 32).getLsbD u = true
    rw [BitVec.getLsbD_allOnes]
    simp [hu]
  simp only [Int32.toBitVec_and, BitVec.getLsbD_and, Int32.toBitVec_xor, BitVec.getLsbD_xor, hx, h3, Bool.true_and] at h2
  have h4 : (0 : Int32).toBitVec.getLsbD u = false := by
    show (0#32).getLsbD u = false
    simp
  rw [h4] at h2
  cases hq : y.toBitVec.getLsbD u with
  | true => rfl
  | false => rw [hq] at h2; cases h2
theorem bit_one : ∀ t, t < 8 → ∀ u, u < 8 → ((1 : Int32) <<< (nI t &&& 31)).toBitVec.getLsbD u = decide (u = t) := by decide +kernel
theorem ibit_set {y : Int32} {t u : Nat} (ht : t < 8) (hu : u < 8) : ibit u (y ||| ((1 : Int32) <<< (nI t &&& 31))) ↔ ibit u y ∨ u = t := by
  unfold ibit
  rw [Int32.toBitVec_or, BitVec.getLsbD_or, bit_one t ht u hu]
  simp
theorem ibit_0 (u : Nat) : ¬ ibit u 0 := by
  unfold ibit
  show ¬ (0#32).getLsbD u = true
  simp
section DAYS
variable (dy hd cr fs : Nat → Nat) (bt : Nat → Int32) (HA CA : Nat)
/-- what is used on a day by the first n of an order -/
def Ws (w : Nat → Nat) (o D : Nat → Nat) : Nat → Nat → Nat
  | 0, _ => 0
  | n + 1, d => Ws w o D n d + (if D (o n) ≤ d ∧ d < D (o n) + dy (o n) then w (o n) else 0)
/-- the last day of these -/
def la (o D : Nat → Nat) : Nat → Nat
  | 0 => 0
  | n + 1 => if la o D n < D (o n) + dy (o n) then D (o n) + dy (o n) else la o D n
/-- the first day by those that must have ended, of the first u tasks -/
noncomputable def bs (D : Nat → Nat) (t : Nat) : Nat → Nat
  | 0 => fs t
  | u + 1 => @ite Nat (ibit u (bt t) ∧ bs D t u < D u + dy u) (Classical.propDecidable _) (D u + dy u) (bs D t u)
def okD (t : Nat) (H C : Nat → Nat) (d : Nat) : Prop := H d + hd t ≤ HA ∧ C d + cr t ≤ CA
def fit (t : Nat) (H C : Nat → Nat) (d : Nat) : Prop := ∀ x, d ≤ x → x < d + dy t → okD hd cr HA CA t H C x
def isSt (t : Nat) (D H C : Nat → Nat) (d : Nat) : Prop := bs dy fs bt D t 7 ≤ d ∧ fit dy hd cr HA CA t H C d ∧ ∀ x, bs dy fs bt D t 7 ≤ x → x < d → ¬ fit dy hd cr HA CA t H C x
theorem Ws_congr {w o o' D D' : Nat → Nat} {n : Nat} (h1 : ∀ i, i < n → o' i = o i) (h2 : ∀ i, i < n → D' (o i) = D (o i)) : ∀ d, Ws dy w o' D' n d = Ws dy w o D n d := by
  induction n with
  | zero => intro d; rfl
  | succ n ih =>
    intro d
    show Ws dy w o' D' n d + (if D' (o' n) ≤ d ∧ d < D' (o' n) + dy (o' n) then w (o' n) else 0) = Ws dy w o D n d + (if D (o n) ≤ d ∧ d < D (o n) + dy (o n) then w (o n) else 0)
    rw [ih (fun i hi => h1 i (by omega)) (fun i hi => h2 i (by omega)), h1 n (by omega), h2 n (by omega)]
theorem la_congr {o o' D D' : Nat → Nat} {n : Nat} (h1 : ∀ i, i < n → o' i = o i) (h2 : ∀ i, i < n → D' (o i) = D (o i)) : la dy o' D' n = la dy o D n := by
  induction n with
  | zero => rfl
  | succ n ih =>
    show (if la dy o' D' n < D' (o' n) + dy (o' n) then D' (o' n) + dy (o' n) else la dy o' D' n) = (if la dy o D n < D (o n) + dy (o n) then D (o n) + dy (o n) else la dy o D n)
    rw [ih (fun i hi => h1 i (by omega)) (fun i hi => h2 i (by omega)), h1 n (by omega), h2 n (by omega)]
theorem bs_congr {D D' : Nat → Nat} {t : Nat} : ∀ n, (∀ u, u < n → ibit u (bt t) → D' u = D u) → bs dy fs bt D' t n = bs dy fs bt D t n := by
  intro n
  induction n with
  | zero => intro _; rfl
  | succ n ih =>
    intro h
    show @ite Nat (ibit n (bt t) ∧ bs dy fs bt D' t n < D' n + dy n) (Classical.propDecidable _) (D' n + dy n) (bs dy fs bt D' t n) = @ite Nat (ibit n (bt t) ∧ bs dy fs bt D t n < D n + dy n) (Classical.propDecidable _) (D n + dy n) (bs dy fs bt D t n)
    rw [ih (fun u hu => h u (by omega))]
    by_cases hb : ibit n (bt t)
    · rw [h n (by omega) hb]
    · rw [if_neg (fun q => hb q.1), if_neg (fun q => hb q.1)]
theorem bs_le {D : Nat → Nat} {t B : Nat} (h0 : fs t ≤ B) : ∀ n, (∀ u, u < n → ibit u (bt t) → D u + dy u ≤ B) → bs dy fs bt D t n ≤ B := by
  intro n
  induction n with
  | zero => intro _; exact h0
  | succ n ih =>
    intro h
    show @ite Nat (ibit n (bt t) ∧ bs dy fs bt D t n < D n + dy n) (Classical.propDecidable _) (D n + dy n) (bs dy fs bt D t n) ≤ B
    by_cases hb : ibit n (bt t) ∧ bs dy fs bt D t n < D n + dy n
    · rw [if_pos hb]; exact h n (by omega) hb.1
    · rw [if_neg hb]; exact ih (fun u hu => h u (by omega))
theorem la_le {o D : Nat → Nat} : ∀ n i, i < n → D (o i) + dy (o i) ≤ la dy o D n := by
  intro n
  induction n with
  | zero => intro i hi; omega
  | succ n ih =>
    intro i hi
    show _ ≤ (if la dy o D n < D (o n) + dy (o n) then D (o n) + dy (o n) else la dy o D n)
    by_cases hin : i = n
    · subst hin; split <;> omega
    · have := ih i (by omega); split <;> omega
theorem Ws_out {w o D : Nat → Nat} : ∀ n d, la dy o D n ≤ d → Ws dy w o D n d = 0 := by
  intro n
  induction n with
  | zero => intro d _; rfl
  | succ n ih =>
    intro d h
    have h1 := la_le dy (o := o) (D := D) (n + 1) n (by omega)
    have h2 : la dy o D n ≤ la dy o D (n + 1) := by
      show _ ≤ (if la dy o D n < D (o n) + dy (o n) then D (o n) + dy (o n) else la dy o D n)
      split <;> omega
    show Ws dy w o D n d + (if D (o n) ≤ d ∧ d < D (o n) + dy (o n) then w (o n) else 0) = 0
    rw [ih d (by omega), if_neg (by omega)]
/-- there is a first day -/
theorem ex_st {t B : Nat} {D H C : Nat → Nat} (hb : bs dy fs bt D t 7 ≤ B) (hB : fit dy hd cr HA CA t H C B) : ∃ d, d ≤ B ∧ isSt dy hd cr fs bt HA CA t D H C d := by
  have key : ∀ m a, a + m = B → bs dy fs bt D t 7 ≤ a → (∀ x, bs dy fs bt D t 7 ≤ x → x < a → ¬ fit dy hd cr HA CA t H C x) → ∃ d, d ≤ B ∧ isSt dy hd cr fs bt HA CA t D H C d := by
    intro m
    induction m with
    | zero =>
      intro a ha h1 h2
      obtain rfl : a = B := by omega
      exact ⟨a, Nat.le_refl _, h1, hB, h2⟩
    | succ m ih =>
      intro a ha h1 h2
      by_cases hf : fit dy hd cr HA CA t H C a
      · exact ⟨a, by omega, h1, hf, h2⟩
      · refine ih (a + 1) (by omega) (by omega) (fun x hx hx2 => ?_)
        by_cases hxa : x = a
        · rw [hxa]; exact hf
        · exact h2 x hx (by omega)
  exact key (B - bs dy fs bt D t 7) _ (by omega) (Nat.le_refl _) (fun x hx hx2 => by omega)
/-- a beginning of an order, and its days -/
def prO (o D : Nat → Nat) (n : Nat) (done : Int32) : Prop := (∀ i, i < n → o i < 7 ∧ 0 < dy (o i)) ∧ (∀ u, u < 7 → (ibit u done ↔ ∃ i, i < n ∧ o i = u)) ∧ (∀ i, i < n → ∀ u, u < 7 → ibit u (bt (o i)) → ∃ j, j < i ∧ o j = u) ∧ (∀ i, i < n → isSt dy hd cr fs bt HA CA (o i) D (Ws dy hd o D i) (Ws dy cr o D i) (D (o i))) ∧ la dy o D n ≤ 40 + 20 * n ∧ ∀ i j, i < n → j < i → o i ≠ o j
/-- one task more -/
theorem pr_ext {o D : Nat → Nat} {n t d : Nat} {done : Int32} (h : prO dy hd cr fs bt HA CA o D n done) (ht : t < 7) (h0 : 0 < dy t) (hd20 : dy t ≤ 20) (hnew : ¬ ibit t done) (hsub : (bt t) &&& (done ^^^ (-1)) = 0) (hst : isSt dy hd cr fs bt HA CA t D (Ws dy hd o D n) (Ws dy cr o D n) d) (hdB : d ≤ 40 + 20 * n) : prO dy hd cr fs bt HA CA (fun i => if i = n then t else o i) (fun u => if u = t then d else D u) (n + 1) (done ||| ((1 : Int32) <<< (nI t &&& 31))) := by
  obtain ⟨a1, a2, a3, a4, a5, a6⟩ := h
  have hne : ∀ i, i < n → o i ≠ t := fun i hi q => hnew ((a2 t ht).mpr ⟨i, hi, q⟩)
  have co : ∀ i, i < n → (fun i => if i = n then t else o i) i = o i := fun i hi => if_neg (by omega)
  have cD : ∀ i, i < n → (fun u => if u = t then d else D u) (o i) = D (o i) := fun i hi => if_neg (hne i hi)
  have cW : ∀ w, ∀ i, i ≤ n → Ws dy w (fun i => if i = n then t else o i) (fun u => if u = t then d else D u) i = Ws dy w o D i := fun w i hi => funext (fun x => Ws_congr dy (fun j hj => co j (by omega)) (fun j hj => cD j (by omega)) x)
  have cL : la dy (fun i => if i = n then t else o i) (fun u => if u = t then d else D u) n = la dy o D n := la_congr dy co cD
  have on : (fun i => if i = n then t else o i) n = t := if_pos rfl
  have Dt : (fun u => if u = t then d else D u) t = d := if_pos rfl
  refine ⟨fun i hi => ?_, fun u hu => ?_, fun i hi u hu hb => ?_, fun i hi => ?_, ?_, fun i j hi hj => ?_⟩
  · by_cases hin : i = n
    · subst hin; rw [on]; exact ⟨ht, h0⟩
    · rw [co i (by omega)]; exact a1 i (by omega)
  · rw [ibit_set (by omega) (by omega), a2 u hu]
    constructor
    · rintro (⟨i, hi, q⟩ | q)
      · exact ⟨i, by omega, by rw [co i hi]; exact q⟩
      · exact ⟨n, by omega, by rw [on]; exact q.symm⟩
    · rintro ⟨i, hi, q⟩
      by_cases hin : i = n
      · subst hin; rw [on] at q; exact Or.inr q.symm
      · rw [co i (by omega)] at q; exact Or.inl ⟨i, by omega, q⟩
  · by_cases hin : i = n
    · subst hin
      rw [on] at hb
      obtain ⟨j, hj, q⟩ := (a2 u hu).mp (ibit_sub hsub (by omega) hb)
      exact ⟨j, hj, by rw [co j hj]; exact q⟩
    · rw [co i (by omega)] at hb
      obtain ⟨j, hj, q⟩ := a3 i (by omega) u hu hb
      exact ⟨j, hj, by rw [co j (by omega)]; exact q⟩
  · by_cases hin : i = n
    · subst hin
      rw [on, Dt, cW hd i (Nat.le_refl _), cW cr i (Nat.le_refl _)]
      have eb : bs dy fs bt (fun u => if u = t then d else D u) t 7 = bs dy fs bt D t 7 := bs_congr dy fs bt 7 (fun u hu hb => by
        have hq := (a2 u hu).mp (ibit_sub hsub (by omega) hb)
        obtain ⟨j, hj, q⟩ := hq
        show (if u = t then d else D u) = D u
        exact if_neg (fun z => hne j hj (q.trans z)))
      unfold isSt
      rw [eb]
      exact hst
    · have hi2 : i < n := by omega
      rw [co i hi2, cW hd i (by omega), cW cr i (by omega), cD i hi2]
      have eb : bs dy fs bt (fun u => if u = t then d else D u) (o i) 7 = bs dy fs bt D (o i) 7 := bs_congr dy fs bt 7 (fun u hu hb => by
        obtain ⟨j, hj, q⟩ := a3 i hi2 u hu hb
        show (if u = t then d else D u) = D u
        exact if_neg (fun z => hne j (by omega) (q.trans z)))
      unfold isSt
      rw [eb]
      exact a4 i hi2
  · show (if la dy (fun i => if i = n then t else o i) (fun u => if u = t then d else D u) n < (fun u => if u = t then d else D u) ((fun i => if i = n then t else o i) n) + dy ((fun i => if i = n then t else o i) n) then (fun u => if u = t then d else D u) ((fun i => if i = n then t else o i) n) + dy ((fun i => if i = n then t else o i) n) else la dy (fun i => if i = n then t else o i) (fun u => if u = t then d else D u) n) ≤ _
    rw [on, Dt, cL]
    split <;> omega
  · by_cases hin : i = n
    · subst hin; rw [on, co j hj]; exact Ne.symm (hne j hj)
    · rw [co i (by omega), co j (by omega)]; exact a6 i j (by omega) hj
/-- the next task's first day -/
theorem pr_day {o D : Nat → Nat} {n t : Nat} {done : Int32} (h : prO dy hd cr fs bt HA CA o D n done) (hf : fs t ≤ 40) (h1 : hd t ≤ HA) (h2 : cr t ≤ CA) (hsub : (bt t) &&& (done ^^^ (-1)) = 0) : ∃ d, d ≤ 40 + 20 * n ∧ isSt dy hd cr fs bt HA CA t D (Ws dy hd o D n) (Ws dy cr o D n) d := by
  obtain ⟨a1, a2, a3, a4, a5, a6⟩ := h
  refine ex_st dy hd cr fs bt HA CA (bs_le dy fs bt (by omega) 7 (fun u hu hb => ?_)) (fun x hx _ => ?_)
  · obtain ⟨j, hj, q⟩ := (a2 u hu).mp (ibit_sub hsub (by omega) hb)
    have := la_le dy (o := o) (D := D) n j hj
    rw [q] at this
    omega
  · unfold okD
    rw [Ws_out dy n x (by omega), Ws_out dy n x (by omega)]
    omega
end DAYS
