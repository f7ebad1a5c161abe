/-! RULES: verdict(), steps(), let(), rules(), both -/
section SEBZ
variable {d e : Nat} {I J I0 J0 : Nat → Nat → Int32} {L L' Lr : Nat → Nat → Int64} {pa pb pu pw : Option Nat} {m : Nat → Int32} {k : Bool} {N o r nt np nl nu nc nr : Nat} {wl : Nat → Nat} {ans : Int32} {b c : Int}
/-- two programs that mean the same, their sizes told -/
def prB (g nl nt nu np nc nr : Nat) (wl : Nat → Nat) (I J : Nat → Nat → Int32) (L' : Nat → Nat → Int64) : Prop := nl ≤ 40 ∧ nt ≤ 8 ∧ nu ≤ 24 ∧ np ≤ 96 ∧ I g 11 = nI nl ∧ I g 12 = nI nt ∧ I g 13 = nI nu ∧ J 0 39 = nI nl ∧ J 0 46 = nI nt ∧ J 0 49 = nI nu ∧ prL g nl nt wl nc nr I J L' ∧ prU g nl nt nu wl nc nr I J L' ∧ prT g nt np I J L' ∧ (∀ i j, i ≤ j → wl i ≤ wl j) ∧ wl nl ≤ 1200
theorem prB.congr {g : Nat} {I2 J2 : Nat → Nat → Int32} {L2' : Nat → Nat → Int64} (h : prB g nl nt nu np nc nr wl I J L') (e1 : ∀ c, g ≤ c → c ≤ g + 10 → I2 c = I c) (e2 : ∀ q, q = 39 ∨ q = 46 ∨ q = 49 → J2 0 q = J 0 q) (e3 : ∀ c, 21 ≤ c → c ≤ 34 → J2 c = J c) (e4 : ∀ c, c = 25 ∨ c = 31 ∨ c = 32 → L2' c = L' c) : prB g nl nt nu np nc nr wl I2 J2 L2' := by
  obtain ⟨a1, a2, a3, a4, a5, a6, a7, a8, a9, a10, a11, a12, a13, a14, a15⟩ := h
  have eg := e1 g (Nat.le_refl _) (by omega)
  refine ⟨a1, a2, a3, a4, by rw [eg]; exact a5, by rw [eg]; exact a6, by rw [eg]; exact a7, by rw [e2 39 (by decide)]; exact a8, by rw [e2 46 (by decide)]; exact a9, by rw [e2 49 (by decide)]; exact a10, ?_, ?_, ?_, a14, a15⟩
  · exact prL.mv a11 (Nat.le_refl _) (Nat.le_refl _) (Nat.le_refl _) (fun i _ => by rw [e1 (g + 6) (by omega) (by omega)]) (fun i _ => by rw [e3 27 (by decide) (by decide)]) (fun c hc i _ => by rw [e1 (g + 1 + c) (by omega) (by omega)]) (fun c hc i _ => by rw [e3 (21 + c) (by omega) (by omega)]) (fun i _ => by rw [e4 25 (by decide)]) (fun _ _ => rfl)
  · exact prU.mv a12 (Nat.le_refl _) (Nat.le_refl _) (Nat.le_refl _) (Nat.le_refl _) (fun i _ => by rw [e1 (g + 7) (by omega) (by omega)]) (fun i _ => by rw [e3 34 (by decide) (by decide)]) (fun c hc i _ => by rw [e1 (g + 1 + c) (by omega) (by omega)]) (fun c hc i _ => by rw [e3 (21 + c) (by omega) (by omega)]) (fun i _ => by rw [e4 25 (by decide)]) (fun _ _ => rfl)
  · exact prT.mv a13 (Nat.le_refl _) (fun i _ => by rw [e3 29 (by decide) (by decide)]) (fun i _ => by rw [e3 30 (by decide) (by decide)]) (fun i _ => by rw [e1 (g + 10) (by omega) (by omega)]) (fun i _ => by rw [e1 (g + 8) (by omega) (by omega)]) (fun i _ => by rw [e1 (g + 9) (by omega) (by omega)]) (fun i _ => by rw [e4 31 (by decide)]) (fun i _ => by rw [e4 32 (by decide)])
/-- the lets that the first one keeps are right -/
def letK (g nl : Nat) (wl : Nat → Nat) (m : Nat → Int32) (k : Bool) (o r : Nat) (ans : Int32) (b c : Int) (I J : Nat → Nat → Int32) (L L' : Nat → Nat → Int64) : Prop := I 116 10 = 0 ∨ (I 116 10 = 1 ∧ letC I L nl (svL J L' (tqX g I) (wdX m k o r ans b c I) (woX m k o ans b c I) wl))
/-- the rules and what they ask for, in both -/
def rulK (g : Nat) (m : Nat → Int32) (N : Nat) (I J : Nat → Nat → Int32) (L L' : Nat → Nat → Int64) : Prop := ∃ (k : Bool) (o r : Nat) (ans : Int32) (b c : Int) (nl nt nu np nc nr : Nat) (wl : Nat → Nat), (k = true → seaD m o r ans b c) ∧ cH m k N o r ans b c I J L ∧ rH m k o r ans b c I J L' ∧ prB g nl nt nu np nc nr wl I J L' ∧ letK g nl wl m k o r ans b c I J L L'
theorem rulK.sea {g : Nat} (h : rulK g m N I J L L') : seaT m N I J L L' := by
  obtain ⟨k, o, r, ans, b, c, nl, nt, nu, np, nc, nr, wl, h1, h2, h3, -⟩ := h
  exact sea_join h1 h2 h3
theorem pX_p (x : Option Nat) : j_up (pX pa pb pu pw) 116 5 x = pX pa pb pu x := by
  funext a i
  unfold pX
  simp only [j_up_app]
  (repeat' split) <;> simp_all
theorem cH.toJ {J' : Nat → Nat → Int32} (h : cH m k N o r ans b c I J L) (q : mQ m I J') : cH m k N o r ans b c I J' L := by
  obtain ⟨n1, n2, n3, h1⟩ := h
  refine ⟨n1, n2, n3, ?_⟩
  cases k with
  | false => exact h1
  | true =>
    rw [if_neg (by decide)] at h1 ⊢
    obtain ⟨z1, y3, y4⟩ := h1
    exact ⟨z1, y3.toJ q, y4⟩
theorem rH.toI {I' : Nat → Nat → Int32} (h : rH m k o r ans b c I J L') (q : mQ m I' J) : rH m k o r ans b c I' J L' := by
  obtain ⟨n4, h2⟩ := h
  refine ⟨n4, ?_⟩
  cases k with
  | false => exact h2
  | true =>
    rw [if_neg (by decide)] at h2 ⊢
    obtain ⟨z1, y3, y4⟩ := h2
    exact ⟨z1, y3.toI q, y4⟩
theorem knW.toI {I' : Nat → Nat → Int32} (h : knW I J) (f1 : ∀ x, 82 < x → x ≠ 116 → x ≠ 120 → I' x = I x) : knW I' J := by
  unfold knW pieceRel wayRel planRel at *
  rw [f1 83 (by decide) (by decide) (by decide), f1 84 (by decide) (by decide) (by decide), f1 85 (by decide) (by decide) (by decide), f1 86 (by decide) (by decide) (by decide), f1 87 (by decide) (by decide) (by decide), f1 88 (by decide) (by decide) (by decide), f1 96 (by decide) (by decide) (by decide), f1 97 (by decide) (by decide) (by decide), f1 98 (by decide) (by decide) (by decide), f1 99 (by decide) (by decide) (by decide), f1 100 (by decide) (by decide) (by decide), f1 107 (by decide) (by decide) (by decide), f1 110 (by decide) (by decide) (by decide), f1 111 (by decide) (by decide) (by decide)]
  exact h
/-- the lets, worked out or known -/
theorem lets_38 (hd : 470 ≤ d) (hD : k = true → seaD m o r ans b c) (hK : mK m I J) (h1 : cH m k N o r ans b c I J L) (hP : prB 38 nl nt nu np nc nr wl I J L') (hL : letK 38 nl wl m k o r ans b c I J L L') : ∃ I1 L1, jv (d + 1) 142 0 [some (.ref 116), some (.ref 38), none] [] (shC, I, L, pX pa pb pu pw) = some (none, (shC, I1, L1, pX pa pb pu (some 38))) ∧ lsB I I1 L L1 ∧ I1 116 10 = 1 ∧ wIx m k N o r ans b c J I1 L1 ∧ letC I1 L1 nl (svL J L' (tqX 38 I) (wdX m k o r ans b c I) (woX m k o ans b c I) wl) := by
  obtain ⟨a1, a2, a3, a4, a5, a6, a7, a8, a9, a10, a11, a12, a13, a14, a15⟩ := hP
  have E : ∀ I1 L1, lsB I I1 L L1 → envC 38 (wIx m k N o r ans b c J) I1 L1 nt (tqX 38 I) (wdX m k o r ans b c I) (woX m k o ans b c I) pa pb pu := fun I1 L1 hb => envC_38 hD a2 a13 hK (fun x h1 h2 h3 => hb.1 x h1 h2 h3)
  have ls0 : lsB I I L L := ⟨fun _ _ _ _ => rfl, fun _ _ _ => rfl, fun _ _ _ _ _ _ => rfl⟩
  rw [B142_0_g38, pX_p]
  rcases hL with z | ⟨z, hl⟩
  · exact lets_c38 (d := d) (by omega) wIx_2 E a1 a11 a14 a15 a5 nl 0 I L (by omega) ls0 z ⟨hK, h1⟩ ⟨by omega, fun i hi => by omega⟩
  · have id1 : j_up I 116 10 1 = I := by rw [← z]; exact j_up_ii I 116 10
    refine ⟨I, L, ?_, ls0, z, ⟨hK, h1⟩, hl⟩
    rw [B142_7_g38, if_neg (show ¬ I 116 10 = 0 by rw [z]; decide), ite_self, ite_self, B142_86_g38, if_pos bl_1, id1]
/-- the lets, worked out or known -/
theorem lets_49 (hd : 470 ≤ d) (hD : k = true → seaD m o r ans b c) (hK : mK m I J) (h1 : cH m k N o r ans b c I J L) (hP : prB 49 nl nt nu np nc nr wl I J L') (hL : letK 49 nl wl m k o r ans b c I J L L') : ∃ I1 L1, jv (d + 1) 142 0 [some (.ref 116), some (.ref 49), none] [] (shC, I, L, pX pa pb pu pw) = some (none, (shC, I1, L1, pX pa pb pu (some 49))) ∧ lsB I I1 L L1 ∧ I1 116 10 = 1 ∧ wIx m k N o r ans b c J I1 L1 ∧ letC I1 L1 nl (svL J L' (tqX 49 I) (wdX m k o r ans b c I) (woX m k o ans b c I) wl) := by
  obtain ⟨a1, a2, a3, a4, a5, a6, a7, a8, a9, a10, a11, a12, a13, a14, a15⟩ := hP
  have E : ∀ I1 L1, lsB I I1 L L1 → envC 49 (wIx m k N o r ans b c J) I1 L1 nt (tqX 49 I) (wdX m k o r ans b c I) (woX m k o ans b c I) pa pb pu := fun I1 L1 hb => envC_49 hD a2 a13 hK (fun x h1 h2 h3 => hb.1 x h1 h2 h3)
  have ls0 : lsB I I L L := ⟨fun _ _ _ _ => rfl, fun _ _ _ => rfl, fun _ _ _ _ _ _ => rfl⟩
  rw [B142_0_g49, pX_p]
  rcases hL with z | ⟨z, hl⟩
  · exact lets_c49 (d := d) (by omega) wIx_2 E a1 a11 a14 a15 a5 nl 0 I L (by omega) ls0 z ⟨hK, h1⟩ ⟨by omega, fun i hi => by omega⟩
  · have id1 : j_up I 116 10 1 = I := by rw [← z]; exact j_up_ii I 116 10
    refine ⟨I, L, ?_, ls0, z, ⟨hK, h1⟩, hl⟩
    rw [B142_7_g49, if_neg (show ¬ I 116 10 = 0 by rw [z]; decide), ite_self, ite_self, B142_86_g49, if_pos bl_1, id1]
end SEBZ
