/-! THE INTERPRETER'S RUNS: with fuel, without, and block by block -/
theorem j_br_rel {R1 R2 : Type} (ρ : R1 → R2 → Prop) (c : Jvm.ClassFile.Cond) (x y : Int32) {a1 b1 : R1} {a2 b2 : R2} (ha : ρ a1 a2) (hb : ρ b1 b2) : ρ (j_br c x y a1 b1) (j_br c x y a2 b2) := by
  cases c <;> simp only [j_br] <;> split <;> assumption
theorem j_sw_rel {R1 R2 : Type} (ρ : R1 → R2 → Prop) {k1 : Nat → R1} {k2 : Nat → R2} (h : ∀ t, ρ (k1 t) (k2 t)) (d : Nat) (x : Int32) (l : List Nat) : ∀ lo : Int, ρ (j_sw k1 d x lo l) (j_sw k2 d x lo l) := by
  induction l with
  | nil => intro lo; exact h d
  | cons t r ih =>
    intro lo
    simp only [j_sw]
    split
    · exact h t
    · exact ih (lo + 1)
theorem j_sw2_rel {R1 R2 : Type} (ρ : R1 → R2 → Prop) {k1 : Nat → R1} {k2 : Nat → R2} (h : ∀ t, ρ (k1 t) (k2 t)) (d : Nat) (x : Int32) (l : List Nat) : ∀ q : List (Int × Int), ρ (j_sw2 k1 d x q l) (j_sw2 k2 d x q l) := by
  induction l with
  | nil => intro q; cases q <;> exact h d
  | cons t r ih =>
    intro q
    cases q with
    | nil => exact h d
    | cons v q =>
      obtain ⟨v, w⟩ := v
      simp only [j_sw2]
      split
      · exact h t
      · exact ih q
theorem j_cond_rel {R1 R2 : Type} (ρ : R1 → R2 → Prop) (c : Bool) {a1 b1 : R1} {a2 b2 : R2} (ha : ρ a1 a2) (hb : ρ b1 b2) : ρ (cond c a1 b1) (cond c a2 b2) := by
  cases c
  · exact hb
  · exact ha
theorem j_ia_rel {R1 R2 : Type} (ρ : R1 → R2 → Prop) (T : jT) {f1 : R1} {f2 : R2} (S : jS) (a : Nat) (i : Int32) {k1 : Int32 → R1} {k2 : Int32 → R2} (hf : ρ f1 f2) (h : ∀ v, ρ (k1 v) (k2 v)) : ρ (j_ia T f1 S a i k1) (j_ia T f2 S a i k2) := by
  simp only [j_ia]; repeat' (first | exact hf | exact h _ | apply j_cond_rel | split)
theorem j_ba_rel {R1 R2 : Type} (ρ : R1 → R2 → Prop) {f1 : R1} {f2 : R2} (S : jS) (a : Nat) (i : Int32) {k1 : Int32 → R1} {k2 : Int32 → R2} (hf : ρ f1 f2) (h : ∀ v, ρ (k1 v) (k2 v)) : ρ (j_ba f1 S a i k1) (j_ba f2 S a i k2) := by
  simp only [j_ba]; repeat' (first | exact hf | exact h _ | split)
theorem j_la_rel {R1 R2 : Type} (ρ : R1 → R2 → Prop) {f1 : R1} {f2 : R2} (S : jS) (a : Nat) (i : Int32) {k1 : Int64 → R1} {k2 : Int64 → R2} (hf : ρ f1 f2) (h : ∀ v, ρ (k1 v) (k2 v)) : ρ (j_la f1 S a i k1) (j_la f2 S a i k2) := by
  simp only [j_la]; repeat' (first | exact hf | exact h _ | split)
theorem j_aa_rel {R1 R2 : Type} (ρ : R1 → R2 → Prop) {f1 : R1} {f2 : R2} (S : jS) (a : Nat) (i : Int32) {k1 : Value → R1} {k2 : Value → R2} (hf : ρ f1 f2) (h : ∀ v, ρ (k1 v) (k2 v)) : ρ (j_aa f1 S a i k1) (j_aa f2 S a i k2) := by
  simp only [j_aa]; repeat' (first | exact hf | exact h _ | split)
theorem j_is_rel {R1 R2 : Type} (ρ : R1 → R2 → Prop) {f1 : R1} {f2 : R2} (S : jS) (a : Nat) (i v : Int32) {k1 : jS → R1} {k2 : jS → R2} (hf : ρ f1 f2) (h : ∀ S' : jS, S'.1 = S.1 → ρ (k1 S') (k2 S')) : ρ (j_is f1 S a i v k1) (j_is f2 S a i v k2) := by
  simp only [j_is]; repeat' (first | exact hf | exact h _ rfl | split)
theorem j_bs_rel {R1 R2 : Type} (ρ : R1 → R2 → Prop) {f1 : R1} {f2 : R2} (S : jS) (a : Nat) (i v : Int32) {k1 : jS → R1} {k2 : jS → R2} (hf : ρ f1 f2) (h : ∀ S' : jS, S'.1 = S.1 → ρ (k1 S') (k2 S')) : ρ (j_bs f1 S a i v k1) (j_bs f2 S a i v k2) := by
  simp only [j_bs]; repeat' (first | exact hf | exact h _ rfl | split)
theorem j_lst_rel {R1 R2 : Type} (ρ : R1 → R2 → Prop) {f1 : R1} {f2 : R2} (S : jS) (a : Nat) (i : Int32) (v : Int64) {k1 : jS → R1} {k2 : jS → R2} (hf : ρ f1 f2) (h : ∀ S' : jS, S'.1 = S.1 → ρ (k1 S') (k2 S')) : ρ (j_lst f1 S a i v k1) (j_lst f2 S a i v k2) := by
  simp only [j_lst]; repeat' (first | exact hf | exact h _ rfl | split)
theorem j_as_rel {R1 R2 : Type} (ρ : R1 → R2 → Prop) {f1 : R1} {f2 : R2} (S : jS) (a : Nat) (i : Int32) (v : Nat) {k1 : jS → R1} {k2 : jS → R2} (hf : ρ f1 f2) (h : ∀ S' : jS, S'.1 = S.1 → ρ (k1 S') (k2 S')) : ρ (j_as f1 S a i v k1) (j_as f2 S a i v k2) := by
  simp only [j_as]; repeat' (first | exact hf | exact h _ rfl | split)
theorem j_al_rel {R1 R2 : Type} (ρ : R1 → R2 → Prop) (T : jT) {f1 : R1} {f2 : R2} (S : jS) (a : Nat) {k1 : Int32 → R1} {k2 : Int32 → R2} (hf : ρ f1 f2) (h : ∀ v, ρ (k1 v) (k2 v)) : ρ (j_al T f1 S a k1) (j_al T f2 S a k2) := by
  simp only [j_al]; repeat' (first | exact hf | exact h _ | apply j_cond_rel | split)
set_option maxHeartbeats 4000000 in
/-- what stands in relation before an instruction stands so behind it -/
theorem jone_rel {R1 R2 : Type} (ρ : R1 → R2 → Prop) (T : jT) {f1 : R1} {f2 : R2} {k1 : Nat → jL → List Value → jS → R1} {k2 : Nat → jL → List Value → jS → R2} {c1 : Nat → List Value → Nat → jL → List Value → jS → R1} {c2 : Nat → List Value → Nat → jL → List Value → jS → R2} {r1 : Option Value → jS → R1} {r2 : Option Value → jS → R2} {S : jS} (hf : ρ f1 f2) (hk : ∀ pc ls st S', S.1 <+: S'.1 → ρ (k1 pc ls st S') (k2 pc ls st S')) (hc : ∀ k as pc ls st, ρ (c1 k as pc ls st S) (c2 k as pc ls st S)) (hr : ∀ v, ρ (r1 v S) (r2 v S)) (e : jE) (ls : jL) (st : List Value) :
    ρ (jone T f1 k1 c1 r1 e ls st S) (jone T f2 k2 c2 r2 e ls st S) := by
  obtain ⟨pc, ins, len, aux, val⟩ := e
  have h0 : S.1 <+: S.1 := List.prefix_refl _
  have h1 : ∀ x : Nat × Nat, S.1 <+: S.1 ++ [x] := fun x => List.prefix_append _ _
  have h2 : ∀ S' : jS, S'.1 = S.1 → S.1 <+: S'.1 := fun S' q => by rw [q]; exact h0
  cases ins <;> simp only [jone] <;>
    repeat' (first
      | exact hf
      | exact hk _ _ _ _ h0
      | exact hk _ _ _ _ (h1 _)
      | exact hc _ _ _ _ _
      | exact hr _
      | apply j_br_rel
      | (apply j_sw_rel; intro t; exact hk _ _ _ _ h0)
      | (apply j_sw2_rel; intro t; exact hk _ _ _ _ h0)
      | apply j_cond_rel
      | exact j_ia_rel ρ T S _ _ hf (fun v => hk _ _ _ _ h0)
      | exact j_ba_rel ρ S _ _ hf (fun v => hk _ _ _ _ h0)
      | exact j_la_rel ρ S _ _ hf (fun v => hk _ _ _ _ h0)
      | exact j_aa_rel ρ S _ _ hf (fun v => hk _ _ _ _ h0)
      | exact j_is_rel ρ S _ _ _ hf (fun S' q => hk _ _ _ _ (h2 S' q))
      | exact j_bs_rel ρ S _ _ _ hf (fun S' q => hk _ _ _ _ (h2 S' q))
      | exact j_lst_rel ρ S _ _ _ hf (fun S' q => hk _ _ _ _ (h2 S' q))
      | exact j_as_rel ρ S _ _ _ hf (fun S' q => hk _ _ _ _ (h2 S' q))
      | exact j_al_rel ρ T S _ hf (fun v => hk _ _ _ _ h0)
      | split)
/-- a method's locals at its entry -/
def j_ent : Nat → List Value → jL
  | n, [] => List.replicate n none
  | n, .long v :: r => some (.long v) :: none :: j_ent (n - 2) r
  | n, v :: r => some v :: j_ent (n - 1) r
/-- the words that arguments take; a double is none of ours -/
def j_wd : List Value → Nat
  | [] => 0
  | .long _ :: r => 2 + j_wd r
  | .double _ :: r => 1000000 + j_wd r
  | _ :: r => 1 + j_wd r
abbrev jM : Type := Nat → List jE × Nat
abbrev jO : Type := Option (Option Value × jS)
def jrun (T : jT) (M : jM) : Nat → Nat → Nat → Nat → jL → List Value → jS → jO
  | 0, _, _, _, _, _, _ => none
  | n + 1, d, k, pc, ls, st, S => match j_at (M k).1 pc with
    | none => none
    | some e => jone T none (jrun T M n d k) (fun k' as pc' ls' r S' => match d with
        | 0 => none
        | d' + 1 => match cond (Nat.ble (j_wd as) (M k').2) (jrun T M n d' k' 0 (j_ent (M k').2 as) [] S') none with
          | none => none
          | some q => jrun T M n d k pc' ls' (q.1.toList ++ r) q.2) (fun v S' => some (v, S')) e ls st S
theorem jrun_mono (T : jT) (M : jM) : ∀ (n d k pc : Nat) (ls : jL) (st : List Value) (S : jS) (r : Option Value × jS), jrun T M n d k pc ls st S = some r → jrun T M (n + 1) d k pc ls st S = some r := by
  intro n
  induction n with
  | zero => intro d k pc ls st S r h; exact absurd h (by simp [jrun])
  | succ n ih =>
    intro d k pc ls st S r h
    rw [jrun] at h ⊢
    cases hz : j_at (M k).1 pc with
    | none => rw [hz] at h; exact absurd h (by simp)
    | some e =>
      rw [hz] at h
      revert h
      refine jone_rel (fun x y : jO => x = some r → y = some r) T (fun q => q) (fun pc ls st S' _ => ih d k pc ls st S' r) ?_ (fun v q => q) e ls st
      intro k' as pc' ls' st'
      cases d with
      | zero => exact fun q => q
      | succ d' =>
        dsimp only
        cases hz : Nat.ble (j_wd as) (M k').2 with
        | false => exact fun q => q
        | true =>
        intro h
        dsimp only [cond] at h ⊢
        cases hq : jrun T M n d' k' 0 (j_ent (M k').2 as) [] S with
        | none => rw [hq] at h; exact absurd h (by simp)
        | some q =>
          rw [hq] at h
          rw [ih d' k' 0 _ [] S q hq]
          exact ih (d' + 1) k pc' ls' _ _ r h
theorem jrun_le {T : jT} {M : jM} {n m d k pc : Nat} {ls : jL} {st : List Value} {S : jS} {r : Option Value × jS} (hm : n ≤ m) (h : jrun T M n d k pc ls st S = some r) : jrun T M m d k pc ls st S = some r := by
  induction hm with
  | refl => exact h
  | step _ ih => exact jrun_mono T M _ d k pc ls st S r ih
/-- a run without fuel -/
noncomputable def jev (T : jT) (M : jM) (d k pc : Nat) (ls : jL) (st : List Value) (S : jS) : jO :=
  @dite _ (∃ r, ∃ n, jrun T M n d k pc ls st S = some r) (Classical.propDecidable _) (fun h => some (Classical.choose h)) (fun _ => none)
theorem jev_iff {T : jT} {M : jM} {d k pc : Nat} {ls : jL} {st : List Value} {S : jS} {r : Option Value × jS} : jev T M d k pc ls st S = some r ↔ ∃ n, jrun T M n d k pc ls st S = some r := by
  unfold jev
  constructor
  · intro h
    split at h
    · next hx =>
      obtain ⟨n, hn⟩ := Classical.choose_spec hx
      exact ⟨n, by rw [hn]; exact h⟩
    · exact absurd h (by simp)
  · rintro ⟨n, hn⟩
    have hx : ∃ r, ∃ n, jrun T M n d k pc ls st S = some r := ⟨r, n, hn⟩
    rw [dif_pos hx]
    obtain ⟨m, hm⟩ := Classical.choose_spec hx
    have h1 := jrun_le (Nat.le_max_left n m) hn
    have h2 := jrun_le (Nat.le_max_right n m) hm
    rw [h2] at h1
    exact h1
/-- a call, and the rest behind it -/
noncomputable def jgo (T : jT) (M : jM) (d k' : Nat) (as : List Value) (S : jS) (K : Option Value → jS → jO) : jO := match d with
  | 0 => none
  | d' + 1 => match cond (Nat.ble (j_wd as) (M k').2) (jev T M d' k' 0 (j_ent (M k').2 as) [] S) none with
    | none => none
    | some q => K q.1 q.2
theorem jev_eq {T : jT} {M : jM} {d k pc : Nat} {ls : jL} {st : List Value} {S : jS} {e : jE} (he : j_at (M k).1 pc = some e) : jev T M d k pc ls st S = jone T none (jev T M d k) (fun k' as pc' ls' r S' => jgo T M d k' as S' (fun v S'' => jev T M d k pc' ls' (v.toList ++ r) S'')) (fun v S' => some (v, S')) e ls st S := by
  apply Option.ext
  intro r
  constructor
  · intro h
    obtain ⟨n, hn⟩ := jev_iff.mp h
    cases n with
    | zero => exact absurd hn (by simp [jrun])
    | succ n =>
      rw [jrun, he] at hn
      revert hn
      refine jone_rel (fun x y : jO => x = some r → y = some r) T (fun q => q) (fun pc ls st S' _ h => jev_iff.mpr ⟨n, h⟩) ?_ (fun v q => q) e ls st
      intro k' as pc' ls' st' h
      cases d with
      | zero => exact absurd h (by simp)
      | succ d' =>
        dsimp only at h
        cases hz : Nat.ble (j_wd as) (M k').2 with
        | false => rw [hz] at h; exact absurd h (by simp)
        | true =>
        rw [hz] at h
        dsimp only [cond] at h
        cases hq : jrun T M n d' k' 0 (j_ent (M k').2 as) [] S with
        | none => rw [hq] at h; exact absurd h (by simp)
        | some q =>
          rw [hq] at h
          simp only [jgo, hz, cond, jev_iff.mpr ⟨n, hq⟩]
          exact jev_iff.mpr ⟨n, h⟩
  · intro h
    have key : ∃ n, ∀ m, n ≤ m → jone T (fun _ => none) (fun pc ls st S' (m : Nat) => jrun T M m d k pc ls st S') (fun k' as pc' ls' r S' (m : Nat) => match d with
        | 0 => none
        | d' + 1 => match cond (Nat.ble (j_wd as) (M k').2) (jrun T M m d' k' 0 (j_ent (M k').2 as) [] S') none with
          | none => none
          | some q => jrun T M m d k pc' ls' (q.1.toList ++ r) q.2) (fun v S' _ => some (v, S')) e ls st S m = some r := by
      revert h
      refine jone_rel (fun (x : jO) (y : Nat → jO) => x = some r → ∃ n, ∀ m, n ≤ m → y m = some r) T (fun q => absurd q (by simp)) (fun pc ls st S' _ h => ?_) ?_ (fun v q => ⟨0, fun _ _ => q⟩) e ls st
      · obtain ⟨n, hn⟩ := jev_iff.mp h
        exact ⟨n, fun m hm => jrun_le hm hn⟩
      · intro k' as pc' ls' st' h
        cases d with
        | zero => exact absurd h (by simp [jgo])
        | succ d' =>
          simp only [jgo] at h
          cases hz : Nat.ble (j_wd as) (M k').2 with
          | false => rw [hz] at h; exact absurd h (by simp)
          | true =>
          rw [hz] at h
          dsimp only [cond] at h
          cases hq : jev T M d' k' 0 (j_ent (M k').2 as) [] S with
          | none => rw [hq] at h; exact absurd h (by simp)
          | some q =>
            rw [hq] at h
            obtain ⟨n1, h1⟩ := jev_iff.mp hq
            obtain ⟨n2, h2⟩ := jev_iff.mp h
            refine ⟨max n1 n2, fun m hm => ?_⟩
            dsimp only [cond]
            rw [jrun_le (Nat.le_trans (Nat.le_max_left _ _) hm) h1]
            exact jrun_le (Nat.le_trans (Nat.le_max_right _ _) hm) h2
    obtain ⟨n, hn⟩ := key
    refine jev_iff.mpr ⟨n + 1, ?_⟩
    rw [jrun, he]
    have h2 := hn n (Nat.le_refl n)
    rw [← h2]
    refine jone_rel (fun (x : jO) (y : Nat → jO) => x = y n) T ?_ ?_ ?_ ?_ e ls st
    · rfl
    · intro _ _ _ _ _; rfl
    · intro k' as pc' ls' st'; cases d <;> rfl
    · intro _; rfl
/-- n instructions at most, as far as the next of the places 'ps', or as the next call -/
noncomputable def jblk (T : jT) (M : jM) (c : List jE) (ps : List Nat) (d k : Nat) : Nat → Nat → jL → List Value → jS → jO
  | 0, pc, ls, st, S => jev T M d k pc ls st S
  | n + 1, pc, ls, st, S => match j_at c pc with
    | none => none
    | some e => jone T none (fun pc ls st S => cond (ps.contains pc) (jev T M d k pc ls st S) (jblk T M c ps d k n pc ls st S)) (fun k' as pc' ls' r S' => jgo T M d k' as S' (fun v S'' => jev T M d k pc' ls' (v.toList ++ r) S'')) (fun v S' => some (v, S')) e ls st S
theorem jev_none {T : jT} {M : jM} {d k pc : Nat} {ls : jL} {st : List Value} {S : jS} (he : j_at (M k).1 pc = none) : jev T M d k pc ls st S = none := by
  apply Option.ext
  intro r
  constructor
  · intro h
    obtain ⟨n, hn⟩ := jev_iff.mp h
    cases n with
    | zero => exact absurd hn (by simp [jrun])
    | succ n => rw [jrun, he] at hn; exact absurd hn (by simp)
  · intro h; exact absurd h (by simp)
theorem jblk_eq (T : jT) (M : jM) {c : List jE} (ps : List Nat) (d : Nat) {k : Nat} (hc : (M k).1 = c) : ∀ (n pc : Nat) (ls : jL) (st : List Value) (S : jS), jev T M d k pc ls st S = jblk T M c ps d k n pc ls st S := by
  subst hc
  intro n
  induction n with
  | zero => intro pc ls st S; rfl
  | succ n ih =>
    intro pc ls st S
    rw [jblk]
    cases he : j_at (M k).1 pc with
    | none => exact jev_none he
    | some e =>
      rw [jev_eq he]
      refine jone_rel (fun x y : jO => x = y) T rfl (fun pc ls st S' _ => ?_) (fun k' as pc' ls' r => rfl) (fun _ => rfl) e ls st
      cases ps.contains pc
      · exact ih pc ls st S'
      · rfl
/-- the cells are never fewer -/
theorem jrun_grows {T : jT} {M : jM} : ∀ (n d k pc : Nat) (ls : jL) (st : List Value) (S : jS) (r : Option Value × jS), jrun T M n d k pc ls st S = some r → S.1 <+: r.2.1 := by
  intro n
  induction n with
  | zero => intro d k pc ls st S r h; exact absurd h (by simp [jrun])
  | succ n ih =>
    intro d k pc ls st S r h
    rw [jrun] at h
    cases hz : j_at (M k).1 pc with
    | none => rw [hz] at h; exact absurd h (by simp)
    | some e =>
      rw [hz] at h
      revert h
      refine jone_rel (fun (x : jO) (_ : jO) => x = some r → S.1 <+: r.2.1) T (f2 := none) (k2 := fun _ _ _ _ => none) (c2 := fun _ _ _ _ _ _ => none) (r2 := fun _ _ => none) (fun q => absurd q (by simp)) (fun pc ls st S' hS h => hS.trans (ih d k pc ls st S' r h)) ?_ (fun v q => ?_) e ls st
      · intro k' as pc' ls' st' h
        cases d with
        | zero => exact absurd h (by simp)
        | succ d' =>
          dsimp only at h
          cases hz : Nat.ble (j_wd as) (M k').2 with
          | false => rw [hz] at h; exact absurd h (by simp)
          | true =>
          rw [hz] at h
          dsimp only [cond] at h
          cases hq : jrun T M n d' k' 0 (j_ent (M k').2 as) [] S with
          | none => rw [hq] at h; exact absurd h (by simp)
          | some q =>
            rw [hq] at h
            exact (ih _ _ _ _ _ _ _ hq).trans (ih _ _ _ _ _ _ _ h)
      · cases q
        exact List.prefix_refl _
