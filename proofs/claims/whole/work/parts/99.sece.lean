/-! THE RELATION OF BOTH, and what it hangs on -/
section SECE
variable {d e : Nat} {I J I2 J2 : Nat → Nat → Int32} {L L' L2 L2' : Nat → Nat → Int64} {pa pb pu pw : Option Nat} {m : Nat → Int32} {k : Bool} {N o r nt np nl nu nc nr : Nat} {wl : Nat → Nat} {ans : Int32} {b c : Int}
/-- the first one's half over a change of other cells -/
theorem cH.bk (h : cH m k N o r ans b c I J L) (hq : mQ m I2 J2) (f2 : I2 2 = I 2) (f1 : ∀ x, 60 ≤ x → x ≤ 82 → I2 x = I x) : cH m k N o r ans b c I2 J2 L := by
  have q := h.cg (I' := fun x => if 60 ≤ x ∧ x ≤ 82 then I2 x else I x) (L1 := L) (fun x _ => by
    by_cases z : 60 ≤ x ∧ x ≤ 82
    · rw [if_pos z]; exact f1 x z.1 z.2
    · rw [if_neg z]) (fun _ _ _ => rfl)
  obtain ⟨n1, n2, n3, h1⟩ := h
  have n1' : nearK I2 := fun q hq => by rw [f1 82 (by decide) (by decide)]; exact n1 q hq
  refine ⟨n1', ⟨by rw [f1 60 (by decide) (by decide)]; exact n2.1, fun i hi => by rw [f1 71 (by decide) (by decide)]; exact n2.2 i hi⟩, by rw [f1 75 (by decide) (by decide), f1 77 (by decide) (by decide), f1 79 (by decide) (by decide)]; exact n3, ?_⟩
  cases k with
  | false => rw [if_pos rfl] at h1 ⊢; rw [f1 60 (by decide) (by decide)]; exact h1
  | true =>
    rw [if_neg (by decide)] at h1 ⊢
    obtain ⟨z1, y3, y4, y6, hC⟩ := h1
    have y3' : seaC m o I2 J L := y3.gen f2 (by rw [f1 60 (by decide) (by decide)]) (by rw [f1 60 (by decide) (by decide)]) (fun x x1 x2 => f1 x (by omega) (by omega)) n1' rfl (fun _ _ => rfl)
    refine ⟨by rw [f1 60 (by decide) (by decide)]; exact z1, y3'.toJ hq, fun i hi hk => ?_, y6, fun z => ?_⟩
    · rw [f1 71 (by decide) (by decide), f1 60 (by decide) (by decide)] at hk
      rw [f1 69 (by decide) (by decide)]; exact y4 i hi hk
    · obtain ⟨c1, c2, c3⟩ := hC z
      exact ⟨c1, fun p hp hl => by rw [f1 67 (by decide) (by decide)]; exact c2 p hp hl, c3⟩
/-- the second one's half over a change of other cells -/
theorem rH.bk (h : rH m k o r ans b c I J L') (hq : mQ m I2 J2) (f1 : ∀ x, 42 ≤ x → x ≤ 47 → J2 x = J x) (f2 : ∀ q, 59 ≤ q → q ≤ 68 → J2 0 q = J 0 q) : rH m k o r ans b c I2 J2 L' := by
  obtain ⟨n4, h2⟩ := h
  refine ⟨n4, ?_⟩
  cases k with
  | false =>
    rw [if_pos rfl] at h2 ⊢
    rw [f2 59 (by decide) (by decide)]; exact h2
  | true =>
    rw [if_neg (by decide)] at h2 ⊢
    obtain ⟨z2, ⟨s1, s2, s3, s4, ⟨g, s5, s6⟩, s7⟩, y7, hR⟩ := h2
    refine ⟨by rw [f2 59 (by decide) (by decide)]; exact z2, ⟨hq, s2, s3, by rw [f2 62 (by decide) (by decide)]; exact s4, ⟨g, s5.cg2 (fun c c1 c2 => f1 c (by omega) c2), by rw [f1 44 (by decide) (by decide)]; exact s6⟩, s7⟩, by rw [f2 60 (by decide) (by decide), f2 61 (by decide) (by decide)]; exact y7, fun z => ?_⟩
    obtain ⟨r1, r2, r3, r4, r5, r6⟩ := hR z
    exact ⟨by rw [f2 66 (by decide) (by decide), f2 67 (by decide) (by decide), f2 68 (by decide) (by decide)]; exact r1, r2, r3, fun i hi => by rw [f1 42 (by decide) (by decide)]; exact r4 i hi, fun p hp hl => by rw [f1 43 (by decide) (by decide)]; exact r5 p hp hl, r6⟩
theorem wdX_cg3 (h0 : I2 83 0 = I 83 0) (h1 : I2 83 1 = I 83 1) (h4 : I2 83 2 = I 83 2) (h2 : I2 96 = I 96) (h3 : I2 107 = I 107) : wdX m k o r ans b c I2 = wdX m k o r ans b c I := by
  funext w
  unfold wdX wdA
  rw [h0, h1, h4, h2, h3]
/-- a sum hangs on four rows alone -/
theorem ev_R {R R' : Nat → Nat → Int32} {V : Nat → Int64} {ln : Nat → Nat} {tq : Nat → Int × Int → Int × Int} {wd : Nat → Int × Int} {wo : Nat → Int × Int → Int × Int} (h0 : R 0 = R' 0) (h1 : R 1 = R' 1) (h2 : R 2 = R' 2) (h3 : R 3 = R' 3) : ∀ f b c k, ev R V ln tq wd wo f b c k = ev R' V ln tq wd wo f b c k := by
  intro f
  induction f with
  | zero => intro b c k; cases b <;> rfl
  | succ f ih =>
    intro b c k
    have ihf : ev R V ln tq wd wo f = ev R' V ln tq wd wo f := by funext b c k; exact ih b c k
    cases b <;> simp only [ev, ihf, h0, h1, h2, h3]
/-- the rules over a change of what they don't ask for -/
theorem rulK.bk {g : Nat} (hg : 27 ≤ g ∧ g + 10 < 60) (h : rulK g m N I J L L') (hq : mQ m I2 J2) (f2 : I2 2 = I 2) (e1 : ∀ c, 27 ≤ c → c ≠ 83 → c ≠ 94 → c ≠ 95 → I2 c = I c) (e83 : ∀ f, f < 3 → I2 83 f = I 83 f) (e2 : ∀ c, 18 ≤ c → c ≤ 57 → J2 c = J c) (e3 : ∀ q, 27 ≤ q → J2 0 q = J 0 q) : rulK g m N I2 J2 L L' := by
  obtain ⟨k, o, r, ans, b, c, nl, nt, nu, np, nc, nr, wl, hD, h1, h2, hP, hL⟩ := h
  refine ⟨k, o, r, ans, b, c, nl, nt, nu, np, nc, nr, wl, hD, h1.bk hq f2 (fun x x1 x2 => e1 x (by omega) (by omega) (by omega) (by omega)), h2.bk hq (fun x x1 x2 => e2 x (by omega) (by omega)) (fun q q1 q2 => e3 q (by omega)), hP.congr (fun x x1 x2 => e1 x (by omega) (by omega) (by omega) (by omega)) (fun q hq => e3 q (by omega)) (fun x x1 x2 => e2 x (by omega) (by omega)) (fun _ _ => rfl), ?_⟩
  have J21 : ∀ c, c ≤ 13 → J2 (21 + c) = J (21 + c) := fun c hc => e2 (21 + c) (by omega) (by omega)
  have es : svL J2 L' (tqX g I2) (wdX m k o r ans b c I2) (woX m k o ans b c I2) wl = svL J L' (tqX g I) (wdX m k o r ans b c I) (woX m k o ans b c I) wl := by
    have ln2 : lnR J2 = lnR J := by funext i; unfold lnR; rw [e2 27 (by decide) (by decide)]
    have tq : tqX g I2 = tqX g I := tqX_cg (fun x x1 x2 => e1 x (by omega) (by omega) (by omega) (by omega))
    have wd : wdX m k o r ans b c I2 = wdX m k o r ans b c I := wdX_cg3 (e83 0 (by decide)) (e83 1 (by decide)) (e83 2 (by decide)) (e1 96 (by decide) (by decide) (by decide) (by decide)) (e1 107 (by decide) (by decide) (by decide) (by decide))
    have wo : woX m k o ans b c I2 = woX m k o ans b c I := woX_cg (e1 96 (by decide) (by decide) (by decide) (by decide)) (e1 107 (by decide) (by decide) (by decide) (by decide)) (e1 97 (by decide) (by decide) (by decide) (by decide)) (e1 110 (by decide) (by decide) (by decide) (by decide)) (e1 111 (by decide) (by decide) (by decide) (by decide))
    funext i
    unfold svL
    rw [ln2, tq, wd, wo]
    exact ev_R (J21 0 (by decide)) (J21 1 (by decide)) (J21 2 (by decide)) (J21 3 (by decide)) _ _ _ _
  unfold letK
  rw [es, e1 116 (by decide) (by decide) (by decide) (by decide)]
  rcases hL with z | ⟨z, zl⟩
  · exact Or.inl z
  · exact Or.inr ⟨z, zl.mv (e1 120 (by decide) (by decide) (by decide) (by decide)) rfl rfl⟩
end SECE
