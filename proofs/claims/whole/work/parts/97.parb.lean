/-! RULES: small steps of both readers -/
section PARB
variable {d e : Nat} {I J : Nat → Nat → Int32} {L L' : Nat → Nat → Int64} {pa pb pu pw : Option Nat} {m : Nat → Int32}
def kdL : List Nat := [0, 97, 48, 108, 103, 43, 45, 42, 47, 40, 41, 91, 93, 44, 59, 58, 61, 35, 60, 62]
theorem kR_inj : ∀ a, a ∈ kdL → ∀ b, b ∈ kdL → (kR a = kR b ↔ a = b) := by decide +kernel
theorem kR_lt : ∀ a, a ∈ kdL → a < 256 ∧ kR a < 256 := by decide +kernel
/-- the tokens, in both -/
def tkS (T : Nat) (K P : Nat → Nat) (W : Nat → List Nat) (U : Nat → Nat) (I : Nat → Nat → Int32) (L : Nat → Nat → Int64) (J : Nat → Nat → Int32) (L' : Nat → Nat → Int64) : Prop :=
  T ≤ 1200 ∧ I 27 6 = nI T ∧ K T = 0 ∧ (∀ j, j ≤ T → I 28 j = nI (K j) ∧ I 29 j = nI (P j) ∧ J 18 j = nI (kR (K j)) ∧ J 19 j = nI (P j) ∧ K j ∈ kdL) ∧ (∀ j, j < T → K j ≠ 0) ∧ (∀ j, j < T → K j = 97 → okW (W j) ∧ L 30 j = lgN (nC (W j)) ∧ L' 20 j = lgN (nR (W j))) ∧ (∀ j, j < T → K j = 48 → U j < 1000000000 ∧ L 30 j = lgN (U j) ∧ L' 20 j = lgN (U j))
variable {T : Nat} {K P : Nat → Nat} {W : Nat → List Nat} {U : Nat → Nat}
theorem tkS.lt (h : tkS T K P W U I L J L') {now : Nat} (hn : now ≤ T) {k : Nat} (hk : K now = k) (h0 : k ≠ 0) : now < T := by
  rcases Nat.lt_or_eq_of_le hn with z | z
  · exact z
  · rw [z, h.2.2.1] at hk; exact absurd hk.symm h0
/-- isNow, is -/
theorem now_c (h : tkS T K P W U I L J L') {now : Nat} (hn : now ≤ T) (h0 : I 27 0 = 0) (h7 : I 27 7 = nI now) {k : Nat} (hk : k < 256) : jv d 8 0 [some (.ref 27), some (.int (nI k))] [] (shC, I, L, pX pa pb pu pw) = some (some (.int (if K now = k then 1 else 0)), (shC, I, L, pX pa pb pu pw)) := by
  have q := h.2.2.2.1 now hn
  have hT := h.1
  rw [B8_0, if_pos h0, h7, if_pos (j_in_nI (by omega) (by decide)), nI_clamp (by omega), q.1]
  by_cases z : K now = k
  · rw [if_pos (by rw [z]), B8_25, if_pos z, if_pos bl_1]
  · rw [if_neg (fun y => z ((nI_eq (by have := kR_lt _ q.2.2.2.2; omega) (by omega)).mp y)), B8_24, B8_25, if_neg z, if_pos bl_0]
theorem now_cf (h0 : I 27 0 ≠ 0) (k : Int32) : jv d 8 0 [some (.ref 27), some (.int k)] [] (shC, I, L, pX pa pb pu pw) = some (some (.int 0), (shC, I, L, pX pa pb pu pw)) := by
  rw [B8_0, if_neg h0, B8_24, B8_25, if_pos bl_0]
theorem is_r (h : tkS T K P W U I L J L') {now : Nat} (hn : now ≤ T) (h7 : J 0 28 = nI now) {k : Nat} (hk : k ∈ kdL) : jv e 258 0 [some (.ref 0), some (.int (nI (kR k)))] [] (shR, J, L', pR) = some (some (.int (if K now = k then 1 else 0)), (shR, J, L', pR)) := by
  have q := h.2.2.2.1 now hn
  have hT := h.1
  rw [B258_0, h7, if_pos (j_in_nI (by omega) (by decide)), nI_clamp (by omega), q.2.2.1]
  by_cases z : K now = k
  · rw [if_pos (by rw [z]), B258_18, if_pos z, if_pos bl_1]
  · rw [if_neg (fun y => z ((kR_inj _ q.2.2.2.2 _ hk).mp ((nI_eq (by have := kR_lt _ q.2.2.2.2; omega) (by have := kR_lt _ hk; omega)).mp y))), B258_18, if_neg z, if_pos bl_0]
/-- fail -/
def flC (I : Nat → Nat → Int32) (k p : Nat) : Nat → Nat → Int32 := j_up (j_up I 27 0 (nI k)) 27 1 (nI p)
def flR (J : Nat → Nat → Int32) (k p : Nat) : Nat → Nat → Int32 := j_up (j_up J 0 29 (nI k)) 0 30 (nI p)
theorem fail_c (h : tkS T K P W U I L J L') {now : Nat} (hn : now ≤ T) (h0 : I 27 0 = 0) (k : Nat) : jv d 7 0 [some (.ref 27), some (.int (nI k)), some (.int (nI now))] [] (shC, I, L, pX pa pb pu pw) = some (some (.int (-1)), (shC, flC I k (P now), L, pX pa pb pu pw)) := by
  have q := h.2.2.2.1 now hn
  have hT := h.1
  rw [B7_0, if_pos h0, if_pos (j_in_nI (by omega) (by decide)), nI_clamp (by omega), j_up_cell _ (by decide), q.2.1, B7_22]
  rfl
theorem fail_cf (h0 : I 27 0 ≠ 0) (k p : Int32) : jv d 7 0 [some (.ref 27), some (.int k), some (.int p)] [] (shC, I, L, pX pa pb pu pw) = some (some (.int (-1)), (shC, I, L, pX pa pb pu pw)) := by
  rw [B7_0, if_neg h0, B7_22]
theorem expect_cf {d : Nat} (h0 : I 27 0 ≠ 0) (k : Int32) : jv (d + 1) 11 0 [some (.ref 27), some (.int k)] [] (shC, I, L, pX pa pb pu pw) = some (some (.int 0), (shC, I, L, pX pa pb pu pw)) := by
  rw [B11_0, jgo_some (d := d) rfl (now_cf h0 k)]
  dsimp only [Option.toList_some, Option.toList_none, List.cons_append, List.nil_append]
  rw [B11_5, if_pos rfl, jgo_some (d := d) rfl (fail_cf h0 _ _)]
  dsimp only [Option.toList_some, Option.toList_none, List.cons_append, List.nil_append]
  rw [B11_17, if_pos bl_0]
theorem expect_c1 {d : Nat} (h : tkS T K P W U I L J L') {now : Nat} (hn : now ≤ T) (h0 : I 27 0 = 0) (h7 : I 27 7 = nI now) {k : Nat} (hk : k < 256) (hK : K now = k) : jv (d + 1) 11 0 [some (.ref 27), some (.int (nI k))] [] (shC, I, L, pX pa pb pu pw) = some (some (.int 1), (shC, j_up I 27 7 (nI (now + 1)), L, pX pa pb pu pw)) := by
  rw [B11_0, jgo_some (d := d) rfl (now_c h hn h0 h7 hk), if_pos hK]
  dsimp only [Option.toList_some, Option.toList_none, List.cons_append, List.nil_append]
  rw [B11_5, if_neg (by decide), if_pos bl_1, h7, show nI now + 1 = nI (now + 1) from nI_add now 1]
theorem expect_c0 {d : Nat} (h : tkS T K P W U I L J L') {now : Nat} (hn : now ≤ T) (h0 : I 27 0 = 0) (h7 : I 27 7 = nI now) {k : Nat} (hk : k < 256) (hK : K now ≠ k) : jv (d + 1) 11 0 [some (.ref 27), some (.int (nI k))] [] (shC, I, L, pX pa pb pu pw) = some (some (.int 0), (shC, flC I 2 (P now), L, pX pa pb pu pw)) := by
  rw [B11_0, jgo_some (d := d) rfl (now_c h hn h0 h7 hk), if_neg hK]
  dsimp only [Option.toList_some, Option.toList_none, List.cons_append, List.nil_append]
  rw [B11_5, if_pos rfl, h7, show (2 : Int32) = nI 2 from rfl, jgo_some (d := d) rfl (fail_c h hn h0 2)]
  dsimp only [Option.toList_some, Option.toList_none, List.cons_append, List.nil_append]
  rw [B11_17, if_pos bl_0]
theorem fails_rk (h0 : J 0 29 = 0) (k p : Nat) : jv e 253 0 [some (.ref 0), some (.int (nI k)), some (.int (nI p))] [] (shR, J, L', pR) = some (some (.int 0), (shR, flR J k p, L', pR)) := fails_r h0 _ _
theorem want_rf {e : Nat} (h0 : J 0 29 ≠ 0) (k : Int32) : jv e 260 0 [some (.ref 0), some (.int k)] [] (shR, J, L', pR) = some (some (.int 0), (shR, J, L', pR)) := by
  rw [B260_0, if_neg h0, if_pos bl_0]
theorem want_r1 {e : Nat} (h : tkS T K P W U I L J L') {now : Nat} (hn : now ≤ T) (h0 : J 0 29 = 0) (h7 : J 0 28 = nI now) {k : Nat} (hk : k ∈ kdL) (hK : K now = k) : jv (e + 1) 260 0 [some (.ref 0), some (.int (nI (kR k)))] [] (shR, J, L', pR) = some (some (.int 1), (shR, j_up J 0 28 (nI (now + 1)), L', pR)) := by
  rw [B260_0, if_pos h0, jgo_some (d := e) rfl (is_r h hn h7 hk), if_pos hK]
  dsimp only [Option.toList_some, Option.toList_none, List.cons_append, List.nil_append]
  rw [B260_14, if_neg (by decide), if_pos bl_1, h7, show nI now + 1 = nI (now + 1) from nI_add now 1]
theorem want_r0 {e : Nat} (h : tkS T K P W U I L J L') {now : Nat} (hn : now ≤ T) (h0 : J 0 29 = 0) (h7 : J 0 28 = nI now) {k : Nat} (hk : k ∈ kdL) (hK : K now ≠ k) : jv (e + 1) 260 0 [some (.ref 0), some (.int (nI (kR k)))] [] (shR, J, L', pR) = some (some (.int 0), (shR, flR J 2 (P now), L', pR)) := by
  have q := h.2.2.2.1 now hn
  have hT := h.1
  rw [B260_0, if_pos h0, jgo_some (d := e) rfl (is_r h hn h7 hk), if_neg hK]
  dsimp only [Option.toList_some, Option.toList_none, List.cons_append, List.nil_append]
  rw [B260_14, if_pos rfl, h7, if_pos (j_in_nI (by omega) (by decide)), nI_clamp (by omega), q.2.2.2.1, show (2 : Int32) = nI 2 from rfl, jgo_some (d := e) rfl (fails_rk h0 2 (P now))]
  dsimp only [Option.toList_some, Option.toList_none, List.cons_append, List.nil_append]
  rw [B260_31, if_pos bl_0]
/-- a node is added -/
def adC (g : Nat) (I : Nat → Nat → Int32) (nc : Nat) (a b x y z : Int32) : Nat → Nat → Int32 := j_up (j_up (j_up (j_up (j_up (j_up I (g + 1) nc a) (g + 5) nc b) (g + 2) nc x) (g + 3) nc y) (g + 4) nc z) g 10 (nI (nc + 1))
def adR (J : Nat → Nat → Int32) (nr : Nat) (a x y z : Int32) : Nat → Nat → Int32 := j_up (j_up (j_up (j_up (j_up J 21 nr a) 22 nr x) 23 nr y) 24 nr z) 0 36 (nI (nr + 1))
theorem node_r {nr : Nat} (h : J 0 36 = nI nr) (hr : nr < 1400) (a x y z : Int32) (v : Int64) : jv e 266 0 [some (.ref 0), some (.int a), some (.int x), some (.int y), some (.int z), some (.long v), none] [] (shR, J, L', pR) = some (some (.int (nI nr)), (shR, adR J nr a x y z, j_up L' 25 nr v, pR)) := by
  have c1 : (nI nr).toNatClampNeg = nr := nI_clamp (by omega)
  have g : ∀ (F : Nat → Nat → Int32) c k v, c ≠ 0 → j_up F c k v 0 36 = F 0 36 := fun F c k v h => by rw [j_up_cell F (Ne.symm h)]
  have g1 : j_up J 21 nr a 0 36 = nI nr := by rw [g _ _ _ _ (by decide), h]
  have g2 : j_up (j_up J 21 nr a) 22 nr x 0 36 = nI nr := by rw [g _ _ _ _ (by decide), g1]
  have g3 : j_up (j_up (j_up J 21 nr a) 22 nr x) 23 nr y 0 36 = nI nr := by rw [g _ _ _ _ (by decide), g2]
  have g4 : j_up (j_up (j_up (j_up J 21 nr a) 22 nr x) 23 nr y) 24 nr z 0 36 = nI nr := by rw [g _ _ _ _ (by decide), g3]
  rw [B266_0]
  simp only [h, c1, g1, g2, g3, g4]
  rw [if_pos (j_in_nI hr (by decide)), if_pos (j_in_nI hr (by decide)), if_pos (j_in_nI hr (by decide)), if_pos (j_in_nI hr (by decide)), if_pos (j_in_nI hr (by decide)), j_up_own, if_pos rfl, show nI nr + 1 = nI (nr + 1) from nI_add nr 1, show nI (nr + 1) - 1 = nI nr from nI_sub (b := 1) (by omega)]
  rfl
theorem add_c38 {nc : Nat} (h : I 38 10 = nI nc) (hr : nc < 1201) (a b x y z : Int32) : jv d 94 0 [some (.ref 38), some (.int a), some (.int b), some (.int x), some (.int y), some (.int z)] [] (shC, I, L, pX pa pb pu pw) = some (some (.int (nI nc)), (shC, adC 38 I nc a b x y z, L, pX pa pb pu pw)) := by
  have c1 : (nI nc).toNatClampNeg = nc := nI_clamp (by omega)
  have g : ∀ (F : Nat → Nat → Int32) c k v, c ≠ 38 → j_up F c k v 38 10 = F 38 10 := fun F c k v h => by rw [j_up_cell F (Ne.symm h)]
  have g1 : j_up I 39 nc a 38 10 = nI nc := by rw [g _ _ _ _ (by decide), h]
  have g2 : j_up (j_up I 39 nc a) 43 nc b 38 10 = nI nc := by rw [g _ _ _ _ (by decide), g1]
  have g3 : j_up (j_up (j_up I 39 nc a) 43 nc b) 40 nc x 38 10 = nI nc := by rw [g _ _ _ _ (by decide), g2]
  have g4 : j_up (j_up (j_up (j_up I 39 nc a) 43 nc b) 40 nc x) 41 nc y 38 10 = nI nc := by rw [g _ _ _ _ (by decide), g3]
  have g5 : j_up (j_up (j_up (j_up (j_up I 39 nc a) 43 nc b) 40 nc x) 41 nc y) 42 nc z 38 10 = nI nc := by rw [g _ _ _ _ (by decide), g4]
  rw [B94_0_o38]
  simp only [h, c1, g1, g2, g3, g4, g5]
  rw [if_pos (show nI nc < (1201 : Int32) from nI_lt (b := 1201) hr (by decide)), if_pos (j_in_nI hr (by decide)), if_pos (j_in_nI hr (by decide)), if_pos (j_in_nI hr (by decide)), if_pos (j_in_nI hr (by decide)), if_pos (j_in_nI hr (by decide)), j_up_own, if_pos rfl, show nI nc + 1 = nI (nc + 1) from nI_add nc 1, show nI (nc + 1) - 1 = nI nc from nI_sub (b := 1) (by omega)]
  rfl
theorem add_f38 (h : I 38 10 = nI 1201) (a b x y z : Int32) : jv d 94 0 [some (.ref 38), some (.int a), some (.int b), some (.int x), some (.int y), some (.int z)] [] (shC, I, L, pX pa pb pu pw) = some (some (.int (-1)), (shC, I, L, pX pa pb pu pw)) := by
  rw [B94_0_o38, h, if_neg (by decide)]
theorem join_c38 {last : Nat} (h : last < 1201) (n l : Int32) : jv d 23 0 [some (.ref 27), some (.int n), some (.int (nI last)), some (.int l)] [] (shC, I, L, pX pa pb (some 38) pw) = some (some (.int n), (shC, j_up I 42 last l, L, pX pa pb (some 38) pw)) := by
  rw [B23_0_g38, if_neg (nI_pos (by omega)), if_pos (j_in_nI h (by decide)), nI_clamp (by omega)]
theorem join_n38 (n l : Int32) : jv d 23 0 [some (.ref 27), some (.int n), some (.int (-1)), some (.int l)] [] (shC, I, L, pX pa pb (some 38) pw) = some (some (.int l), (shC, I, L, pX pa pb (some 38) pw)) := by
  rw [B23_0_g38, if_pos (by decide)]
theorem add_c49 {nc : Nat} (h : I 49 10 = nI nc) (hr : nc < 1201) (a b x y z : Int32) : jv d 94 0 [some (.ref 49), some (.int a), some (.int b), some (.int x), some (.int y), some (.int z)] [] (shC, I, L, pX pa pb pu pw) = some (some (.int (nI nc)), (shC, adC 49 I nc a b x y z, L, pX pa pb pu pw)) := by
  have c1 : (nI nc).toNatClampNeg = nc := nI_clamp (by omega)
  have g : ∀ (F : Nat → Nat → Int32) c k v, c ≠ 49 → j_up F c k v 49 10 = F 49 10 := fun F c k v h => by rw [j_up_cell F (Ne.symm h)]
  have g1 : j_up I 50 nc a 49 10 = nI nc := by rw [g _ _ _ _ (by decide), h]
  have g2 : j_up (j_up I 50 nc a) 54 nc b 49 10 = nI nc := by rw [g _ _ _ _ (by decide), g1]
  have g3 : j_up (j_up (j_up I 50 nc a) 54 nc b) 51 nc x 49 10 = nI nc := by rw [g _ _ _ _ (by decide), g2]
  have g4 : j_up (j_up (j_up (j_up I 50 nc a) 54 nc b) 51 nc x) 52 nc y 49 10 = nI nc := by rw [g _ _ _ _ (by decide), g3]
  have g5 : j_up (j_up (j_up (j_up (j_up I 50 nc a) 54 nc b) 51 nc x) 52 nc y) 53 nc z 49 10 = nI nc := by rw [g _ _ _ _ (by decide), g4]
  rw [B94_0_o49]
  simp only [h, c1, g1, g2, g3, g4, g5]
  rw [if_pos (show nI nc < (1201 : Int32) from nI_lt (b := 1201) hr (by decide)), if_pos (j_in_nI hr (by decide)), if_pos (j_in_nI hr (by decide)), if_pos (j_in_nI hr (by decide)), if_pos (j_in_nI hr (by decide)), if_pos (j_in_nI hr (by decide)), j_up_own, if_pos rfl, show nI nc + 1 = nI (nc + 1) from nI_add nc 1, show nI (nc + 1) - 1 = nI nc from nI_sub (b := 1) (by omega)]
  rfl
theorem add_f49 (h : I 49 10 = nI 1201) (a b x y z : Int32) : jv d 94 0 [some (.ref 49), some (.int a), some (.int b), some (.int x), some (.int y), some (.int z)] [] (shC, I, L, pX pa pb pu pw) = some (some (.int (-1)), (shC, I, L, pX pa pb pu pw)) := by
  rw [B94_0_o49, h, if_neg (by decide)]
theorem join_c49 {last : Nat} (h : last < 1201) (n l : Int32) : jv d 23 0 [some (.ref 27), some (.int n), some (.int (nI last)), some (.int l)] [] (shC, I, L, pX pa pb (some 49) pw) = some (some (.int n), (shC, j_up I 53 last l, L, pX pa pb (some 49) pw)) := by
  rw [B23_0_g49, if_neg (nI_pos (by omega)), if_pos (j_in_nI h (by decide)), nI_clamp (by omega)]
theorem join_n49 (n l : Int32) : jv d 23 0 [some (.ref 27), some (.int n), some (.int (-1)), some (.int l)] [] (shC, I, L, pX pa pb (some 49) pw) = some (some (.int l), (shC, I, L, pX pa pb (some 49) pw)) := by
  rw [B23_0_g49, if_pos (by decide)]
end PARB
