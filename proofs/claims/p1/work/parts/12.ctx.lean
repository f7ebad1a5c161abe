/-! CONTRACTS OF METHODS OUT OF RUNS: what stands before, what behind; the context in a method's body -/
/-- the texts: objects of the JDK's, and their bytes -/
def jTxt (τ : Nat → Nat) (A : Nat → Prop) (U : State) (H : Heap) : Prop := (∀ j, j < 14 → va_O "java/lang/String" (τ (2000 + j)) A U H ∧ va_OF "java/lang/String" "coder" "B" (.int 0) (τ (2000 + j)) A U H ∧ va_OF "java/lang/String" "value" "[B" (.ref (τ (3000 + j))) (τ (2000 + j)) A U H ∧ va_T .byte (τ (3000 + j)) (jTT.2.getD j []).length (fun i => .int ((jTT.2.getD j []).getD i 0)) A U H) ∧ va_Z "java/lang/String" "COMPACT_STRINGS" "Z" (.int 1) A U H ∧ va_Zq "jdk/internal/util/Preconditions" "SIOOBE_FORMATTER" "Ljava/util/function/BiFunction;" A U H
theorem jTxt.moved {τ : Nat → Nat} {A : Nat → Prop} {u U : State} {H : Heap} (hvm : u.vm.Alike U.vm) (h : jTxt τ A u H) : jTxt τ A U H := ⟨fun j hj => ⟨va_O.moved hvm (h.1 j hj).1, va_OF.moved hvm (h.1 j hj).2.1, va_OF.moved hvm (h.1 j hj).2.2.1, va_T.moved hvm (h.1 j hj).2.2.2⟩, h.2.1.moved hvm, h.2.2.moved hvm⟩
theorem jTxt.kept {τ : Nat → Nat} {A : Nat → Prop} {U : State} {H H1 : Heap} (h : jTxt τ A U H) (hq : ∀ a : Nat, a < H.size → ¬ A a → H1[a]? = H[a]?) : jTxt τ A U H1 := ⟨fun j hj => ⟨va_O.kept (h.1 j hj).1 hq, va_OF.kept (h.1 j hj).2.1 hq, va_OF.kept (h.1 j hj).2.2.1 hq, va_T.kept (h.1 j hj).2.2.2 hq⟩, h.2.1.kept hq, h.2.2.kept hq⟩
theorem jTxt.narrow {τ : Nat → Nat} {A B : Nat → Prop} {U : State} {H : Heap} (h : jTxt τ A U H) (hAB : ∀ q, B q → A q) : jTxt τ B U H := ⟨fun j hj => ⟨va_O.narrow (h.1 j hj).1 hAB, va_OF.narrow (h.1 j hj).2.1 hAB, va_OF.narrow (h.1 j hj).2.2.1 hAB, va_T.narrow (h.1 j hj).2.2.2 hAB⟩, h.2.1.narrow hAB, h.2.2.narrow hAB⟩
def jTxR (τ : Nat → Nat) (U : State) : Prop := ∀ j, j < 14 → vk_R (jtxo.getD j ("", 0)).1 (jtxo.getD j ("", 0)).2 (jtx.getD j "") (τ (2000 + j)) U
theorem jTxR.warm {τ : Nat → Nat} {s U : State} (hW : s.WarmedH U.vm) (h : jTxR τ s) : jTxR τ U := fun j hj => vk_R.warm hW (h j hj)
theorem jTxR.same {τ : Nat → Nat} {s U : State} (hW : U.vm = s.vm) (h : jTxR τ s) : jTxR τ U := fun j hj => vk_R.same hW (h j hj)
/-- the store's cells are the last of the heap -/
def jTi (τ : Nat → Nat) (n : Nat) (H : Heap) : Prop := H.size = τ 0 + n ∧ ∀ i, i < 1000 → τ i = τ 0 + i
def jwk (k : Nat) : List Jvm.Cond := .code (jY k).1 (jY k).2.1 (jY k).2.2.1 (jY k).2.2.2 :: jgood
abbrev jrm (d : Nat) (S S' : jS) : Room := { frames := d + 8, cells := S'.1.length - S.1.length, slots := jsz S'.1 - jsz S.1, locals := 42 * (d + 8) }
/-- the fixed part of a world: tables, static arrays, texts -/
def jFx (dC : Nat → ClassId) (dI : Nat → Nat → Nat) (dA : Nat → ClassId) (τ : Nat → Nat) (A : Nat → Prop) (U : State) (H : Heap) : Prop := va_K (dC, dI) vwCl (jtl dA) U ∧ jStat τ A U H ∧ jTxt τ A U H ∧ jTxR τ U ∧ jNst U ∧ va_AO "ShipYard$Person" U
theorem jFx.warm {dC : Nat → ClassId} {dI : Nat → Nat → Nat} {dA : Nat → ClassId} {τ : Nat → Nat} {A : Nat → Prop} {s U : State} {H : Heap} (hW : s.WarmedH U.vm) (h : jFx dC dI dA τ A s H) : jFx dC dI dA τ A U H := ⟨va_K.moved hW.alike h.1, h.2.1.moved hW.alike, h.2.2.1.moved hW.alike, h.2.2.2.1.warm hW, h.2.2.2.2.1.warm hW, h.2.2.2.2.2.moved hW.alike⟩
theorem jFx.kept {dC : Nat → ClassId} {dI : Nat → Nat → Nat} {dA : Nat → ClassId} {τ : Nat → Nat} {A : Nat → Prop} {U : State} {H H1 : Heap} (h : jFx dC dI dA τ A U H) (hq : ∀ a : Nat, a < H.size → ¬ A a → H1[a]? = H[a]?) : jFx dC dI dA τ A U H1 := ⟨h.1, h.2.1.kept hq, h.2.2.1.kept hq, h.2.2.2⟩
theorem jFx.narrow {dC : Nat → ClassId} {dI : Nat → Nat → Nat} {dA : Nat → ClassId} {τ : Nat → Nat} {A B : Nat → Prop} {U : State} {H : Heap} (h : jFx dC dI dA τ A U H) (hAB : ∀ q, B q → A q) : jFx dC dI dA τ B U H := ⟨h.1, h.2.1.narrow hAB, h.2.2.1.narrow hAB, h.2.2.2⟩
theorem jFx.same {dC : Nat → ClassId} {dI : Nat → Nat → Nat} {dA : Nat → ClassId} {τ : Nat → Nat} {A : Nat → Prop} {u U : State} {H : Heap} (hv : u.vm = U.vm) (h : jFx dC dI dA τ A u H) : jFx dC dI dA τ A U H := by
  have ha : u.vm.Alike U.vm := by rw [hv]; exact Vm.Alike.refl _
  exact ⟨va_K.moved ha h.1, h.2.1.moved ha, h.2.2.1.moved ha, h.2.2.2.1.same hv.symm, h.2.2.2.2.1.same hv, h.2.2.2.2.2.moved ha⟩
def jPc (dC : Nat → ClassId) (dI : Nat → Nat → Nat) (dA : Nat → ClassId) (τ : Nat → Nat) (A : Nat → Prop) (as : List Value) (S S' : jS) : Array Value → State → Prop := va_Pc (as.map (tv τ)) (fun U => va_P (dC, dI) vwCl (jws dA τ S) U.heap ∧ va_D A (jws dA τ S) ∧ jFx dC dI dA τ A U U.heap ∧ (∀ q, U.heap.size ≤ q → A q) ∧ (S'.1.length ≠ S.1.length → jTi τ S.1.length U.heap) ∧ 0 < S.1.length ∧ S.1.length ≤ 1000)
def jQ (dC : Nat → ClassId) (dI : Nat → Nat → Nat) (dA : Nat → ClassId) (τ : Nat → Nat) (A : Nat → Prop) (S : jS) (v : Option Value) (S' : jS) : Array Value → State → Outcome → State → Prop := fun _ st oc t => oc = .returned (v.map (tv τ)) ∧ va_P (dC, dI) vwCl (jws dA τ S') t.heap ∧ va_D A (jws dA τ S') ∧ va_F A st t ∧ (jTi τ S.1.length st.heap → jTi τ S'.1.length t.heap) ∧ S'.1.length ≤ 1000
/-- the contracts of the texts' own methods, as far as they are called here -/
def jStr (l : Launch) (τ : Nat → Nat) (A : Nat → Prop) : Prop := ∀ j, j < 14 →
  Met l ⟨"java/lang/String", "length", "()I"⟩ (Jvm.Cond.code ⟨"java/lang/String", "length", "()I"⟩ cJ0_length_8abf5 1 (some .int) :: jgood) { frames := 7, cells := 0, slots := 0, locals := 294 } (va_Pc [.ref (τ (2000 + j))] (fun U => jTxt τ A U U.heap)) (vp_Si (fun r => r = Int32.ofNat (jTT.2.getD j []).length)) 0 0 (fun _ => False) ∧
  (∀ i : Int32, j_in i (jTT.2.getD j []).length = true → Met l ⟨"java/lang/String", "charAt", "(I)C"⟩ (Jvm.Cond.code ⟨"java/lang/String", "charAt", "(I)C"⟩ cJ0_charAt_5068e 2 (some .char) :: jgood) { frames := 7, cells := 0, slots := 0, locals := 294 } (va_Pc [.ref (τ (2000 + j)), .int i] (fun U => jTxt τ A U U.heap)) (vp_Si (fun r => r = (jTT.2.getD j []).getD i.toNatClampNeg 0 &&& 255)) 0 0 (fun _ => False)) ∧
  (∀ i : Int32, Met l ⟨"java/lang/String", "indexOf", "(I)I"⟩ (Jvm.Cond.code ⟨"java/lang/String", "indexOf", "(I)I"⟩ cJ0_indexOf_0f7a4 2 (some .int) :: jgood) { frames := 7, cells := 0, slots := 0, locals := 294 } (va_Pc [.ref (τ (2000 + j)), .int i] (fun U => jTxt τ A U U.heap)) (vp_Si (fun r => r = j_ix i (jTT.2.getD j []) 0)) 0 0 (fun _ => False))
section JCX
variable (p : Program) (l : Launch) (R : Room) (s : State) (m : MethodId) (args : Array Value) (meth : Method) (c : Code)
variable (dC : Nat → ClassId) (dI : Nat → Nat → Nat) (dA : Nat → ClassId) (τ : Nat → Nat) (A : Nat → Prop) (k d : Nat)
/-- the context in a method's body -/
def jCx : Prop := p.tables.exec = Jvm.exec ∧ c.code = (jY k).2.1 ∧ c.maxLocals = (jY k).2.2.1 ∧ meth.sig.returnType = (jY k).2.2.2 ∧ meth.locks = false ∧ s.vm.findClass (jY k).1.cls = some m.cls ∧ ((jY k).1.name = "<init>" → meth.name = "<init>") ∧ (∀ w ∈ jgood, w.before args s = true) ∧ jFx dC dI dA τ A s s.heap ∧ (∀ q, s.heap.size ≤ q → A q) ∧ d + 8 ≤ R.frames ∧ 42 * (d + 8) ≤ R.locals ∧ jStr l τ A
/-- the frame: the store's cells, the locals, what is made so far -/
def jFr (n0 z0 : Nat) (S : jS) (ls : jL) (lsR : Array Slot) (H : Heap) (locs : List Loc) (cells slots : Nat) : Prop := va_P (dC, dI) vwCl (jws dA τ S) H ∧ va_D A (jws dA τ S) ∧ va_S A s.heap H locs ∧ jLs τ ls lsR (jY k).2.2.1 ∧ (0 < S.1.length ∧ S.1.length ≤ 1000) ∧ S.1.length = n0 + cells ∧ jsz S.1 = z0 + slots
end JCX
theorem jW_size {p : Program} {l : Launch} {e : Env} {R : Room} {s : State} {m : MethodId} {args : Array Value} {below : List Frame} {meth : Method} {c : Code} {H : Heap} {locs : List Loc} {cells slots : Nat} {Q : State → Prop} {g : JFrame} (h : H.size ≤ s.heap.size + cells → W p l e R s m args below meth c H locs cells slots Q g) : W p l e R s m args below meth c H locs cells slots Q g := by
  intro T hT X
  refine h ?_ T hT X
  have h1 := X.same.2.2.1
  rw [← hT]
  exact h1
theorem jTi_now {s : State} {dC : Nat → ClassId} {dI : Nat → Nat → Nat} {dA : Nat → ClassId} {τ : Nat → Nat} {A : Nat → Prop} {k n0 z0 : Nat} {S : jS} {ls : jL} {lsR : Array Slot} {H : Heap} {locs : List Loc} {cells slots : Nat} (F : jFr s dC dI dA τ A k n0 z0 S ls lsR H locs cells slots) (hz : H.size ≤ s.heap.size + cells) (h : jTi τ n0 s.heap) : jTi τ S.1.length H := by
  obtain ⟨hP, -, -, -, ⟨h1, h2⟩, hc, -⟩ := F
  refine ⟨?_, h.2⟩
  have h3 : (jws dA τ S)[S.1.length - 1]? = some (τ (S.1.length - 1), jcell dA τ S (S.1.length - 1) (S.1.getD (S.1.length - 1) (0, 0))) := by
    rw [jws_get, if_pos (by omega)]
  have h4 := (hP _ _ h3).lt
  dsimp only at h4
  rw [h.2 _ (by omega)] at h4
  have h5 := h.1
  omega
section JCL
variable {p : Program} {l : Launch} {e : Env} {R : Room} {s : State} {m : MethodId} {args : Array Value} {below : List Frame} {meth : Method} {c : Code} {H : Heap} {locs : List Loc} {cells slots : Nat} {Q : State → Prop}
variable {dC : Nat → ClassId} {dI : Nat → Nat → Nat} {dA : Nat → ClassId} {τ : Nat → Nat} {A : Nat → Prop} {S S' : jS} {v : Option Value}
/-- behind a call by such a contract -/
theorem j_called {mc ms pc : Nat} {ls : Array Slot} {st0 rest : List Value} {a : Array Value} (hr : va_Run p l e R s m args below meth c H locs cells slots mc ms (F0 m pc ls st0) rest (jQ dC dI dA τ A S v S' a) A) (hS : va_S A s.heap H locs)
    (kk : ∀ (H1 : Heap) (locs1 : List Loc), va_P (dC, dI) vwCl (jws dA τ S') H1 → va_D A (jws dA τ S') → va_S A s.heap H1 locs1 → (jTi τ S.1.length H → jTi τ S'.1.length H1) → S'.1.length ≤ 1000 → W p l e R s m args below meth c H1 locs1 (cells + mc) (slots + ms) Q (F0 m (pc + 3) ls ((v.map (tv τ)).toList ++ rest))) : W p l e R s m args below meth c H locs cells slots Q (F0 m pc ls st0) := by
  intro T hT X
  obtain ⟨v', st₀, t, T', L, h0, X', hL, e1, e2, ⟨hv, hP, hD, ⟨hz, hk⟩, hti, hle⟩, st⟩ := hr T hT X
  cases hv
  rw [h0] at hz hk hti
  rw [← e1] at hP hz hk hti
  obtain ⟨t2, a1, b1⟩ := kk T'.heap (locs ++ L) hP hD ⟨Nat.le_trans hS.1 hz, fun q h1 h2 => by rw [hk q (Nat.lt_of_lt_of_le h1 hS.1) h2]; exact hS.2.1 q h1 h2, fun q hq => by
      rcases List.mem_append.mp hq with h | h
      · exact hS.2.2 q h
      · exact hL q h⟩ hti hle T' rfl X'
  exact ⟨t2, st t2 a1, b1⟩
/-- behind a call that only answers -/
theorem j_asked {pc : Nat} {ls : Array Slot} {st0 rest : List Value} {a : Array Value} {x : Int32} (hr : va_Run p l e R s m args below meth c H locs cells slots 0 0 (F0 m pc ls st0) rest (vp_Si (fun r => r = x) a) (fun _ => False))
    (kk : W p l e R s m args below meth c H locs cells slots Q (F0 m (pc + 3) ls (.int x :: rest))) : W p l e R s m args below meth c H locs cells slots Q (F0 m pc ls st0) := by
  intro T hT X
  obtain ⟨v', st₀, t, T', L, h0, X', hL, e1, e2, ⟨r, hv, rfl, hh⟩, st⟩ := hr T hT X
  cases hv
  cases L with
  | cons q L => exact (hL q List.mem_cons_self).elim
  | nil =>
    rw [List.append_nil] at X'
    obtain ⟨t2, a1, b1⟩ := kk T' (by rw [e1, hh, h0]) X'
    exact ⟨t2, st t2 a1, b1⟩
end JCL
theorem jPc_blind {dC : Nat → ClassId} {dI : Nat → Nat → Nat} {dA : Nat → ClassId} {τ : Nat → Nat} {A : Nat → Prop} {as : List Value} {S S' : jS} : FrameBlind (jPc dC dI dA τ A as S S') := by
  intro a U g mk h
  obtain ⟨h0, h1, h2, h3, h4, h5⟩ := h
  exact ⟨h0, h1, h2, (jFx.same (u := U) (U := U.calling g mk a) (H := U.heap) rfl h3 : jFx dC dI dA τ A (U.calling g mk a) U.heap), h4, h5⟩
theorem jTxt_blind {τ : Nat → Nat} {A : Nat → Prop} {as : List Value} : FrameBlind (va_Pc as (fun U => jTxt τ A U U.heap)) := by
  intro a U g mk h
  exact ⟨h.1, jTxt.moved (U := U.calling g mk a) (Vm.Alike.refl U.vm) h.2⟩
