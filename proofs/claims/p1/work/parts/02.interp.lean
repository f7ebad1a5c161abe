/-! AN INTERPRETER OF THE CODE over a store of typed cells: a cell is (kind, size); kind below 100: an object of that number in vwCl, 100 int[], 101 byte[], 102 boolean[], 103 long[], 104 an array of references. References are numbers of cells; from 1000 on static arrays, from 2000 on texts. -/
abbrev jS : Type := List (Nat × Nat) × (Nat → Nat → Int32) × (Nat → Nat → Int64) × (Nat → Nat → Option Nat)
abbrev jE : Type := Nat × Instr × Nat × List Nat × Value
abbrev jL : Type := List (Option Value)
def j_up {α : Type} (f : Nat → Nat → α) (a k : Nat) (v : α) : Nat → Nat → α := va_up f a (va_up (f a) k v)
def j_in (i : Int32) (n : Nat) : Bool := !(decide (i < 0)) && decide (i.toNatClampNeg < n)
theorem j_in_vp {i : Int32} {n : Nat} (h : j_in i n = true) : vp_in i n := by
  simp only [j_in, Bool.and_eq_true, Bool.not_eq_true', decide_eq_false_iff_not, decide_eq_true_eq] at h
  intro q
  rcases q with q | q
  · exact h.1 q
  · omega
/-- the tables of the static arrays and of the texts -/
abbrev jT : Type := List (List Int32) × List (List Int32)
def j_ld : jL → Nat → Option Value
  | [], _ => none
  | v :: _, 0 => v
  | _ :: l, n + 1 => j_ld l n
def j_set : jL → Nat → Option Value → jL
  | [], _, _ => []
  | _ :: l, 0, x => x :: l
  | v :: l, n + 1, x => v :: j_set l n x
/-- a local of one word, of two -/
def j_sto1 (ls : jL) (i : Nat) (v : Value) : jL :=
  match i with
  | 0 => j_set ls 0 (some v)
  | k + 1 => match j_ld ls k with
    | some (.long _) => j_set (j_set ls k none) (k + 1) (some v)
    | some (.double _) => j_set (j_set ls k none) (k + 1) (some v)
    | _ => j_set ls (k + 1) (some v)
def j_sto2 (ls : jL) (i : Nat) (v : Value) : jL := j_set (j_sto1 ls i v) (i + 1) none
def j_sh : List (Nat × Nat) → Nat → Option (Nat × Nat)
  | [], _ => none
  | v :: _, 0 => some v
  | _ :: l, n + 1 => j_sh l n
def j_at : List jE → Nat → Option jE
  | [], _ => none
  | e :: l, p => cond (e.1.beq p) (some e) (j_at l p)
def j_rf (r : Option Nat) : Value := match r with
  | none => .null
  | some a => .ref a
/-- the text's indexOf -/
def j_ix (c : Int32) : List Int32 → Nat → Int32
  | [], _ => -1
  | b :: l, k => if b &&& 255 = c then nI k else j_ix c l (k + 1)
/-- a switch: keys from lo on, and where they lead -/
def j_sw {R : Type} (kt : Nat → R) (d : Nat) (x : Int32) : Int → List Nat → R
  | _, [] => kt d
  | lo, t :: r => if x = Int32.ofInt lo then kt t else j_sw kt d x (lo + 1) r
def j_sw2 {R : Type} (kt : Nat → R) (d : Nat) (x : Int32) : List (Int × Int) → List Nat → R
  | (v, _) :: q, t :: r => if x = Int32.ofInt v then kt t else j_sw2 kt d x q r
  | _, _ => kt d
def j_sum : List Value → Nat
  | [] => 0
  | v :: l => v.category + j_sum l
def j_br {R : Type} (c : Jvm.ClassFile.Cond) (x y : Int32) (a b : R) : R := match c with
  | .eq => if x = y then a else b
  | .ne => if x = y then b else a
  | .lt => if x < y then a else b
  | .ge => if x < y then b else a
  | .gt => if y < x then a else b
  | .le => if y < x then b else a
def j_pop : Nat → List Value → List Value → Option (List Value × List Value)
  | 0, st, acc => some (acc, st)
  | n + 1, v :: st, acc => j_pop n st (v :: acc)
  | _ + 1, [], _ => none
def j_cpy (f g : Nat → Int32) (sp dp n : Nat) : Nat → Int32 := va_cpy f g sp dp n
/-- reads and writes of arrays -/
def j_ia {R : Type} (T : jT) (fail : R) (S : jS) (a : Nat) (i : Int32) (kf : Int32 → R) : R := match j_sh S.1 a with
  | some (100, n) => if j_in i n then kf (S.2.1 a i.toNatClampNeg) else fail
  | some _ => fail
  | none => match T.1[a - 1000]? with
    | some l => cond (Nat.ble 1000 a) (if j_in i l.length then kf (l.getD i.toNatClampNeg 0) else fail) fail
    | none => fail
def j_ba {R : Type} (fail : R) (S : jS) (a : Nat) (i : Int32) (kf : Int32 → R) : R := match j_sh S.1 a with
  | some (101, n) => if j_in i n then kf (S.2.1 a i.toNatClampNeg) else fail
  | some (102, n) => if j_in i n then kf (S.2.1 a i.toNatClampNeg) else fail
  | _ => fail
def j_la {R : Type} (fail : R) (S : jS) (a : Nat) (i : Int32) (kf : Int64 → R) : R := match j_sh S.1 a with
  | some (103, n) => if j_in i n then kf (S.2.2.1 a i.toNatClampNeg) else fail
  | _ => fail
def j_aa {R : Type} (fail : R) (S : jS) (a : Nat) (i : Int32) (kf : Value → R) : R := match j_sh S.1 a with
  | some (104, n) => if j_in i n then kf (j_rf (S.2.2.2 a i.toNatClampNeg)) else fail
  | _ => fail
def j_is {R : Type} (fail : R) (S : jS) (a : Nat) (i : Int32) (v : Int32) (kf : jS → R) : R := match j_sh S.1 a with
  | some (100, n) => if j_in i n then kf (S.1, j_up S.2.1 a i.toNatClampNeg v, S.2.2) else fail
  | _ => fail
def j_bs {R : Type} (fail : R) (S : jS) (a : Nat) (i : Int32) (v : Int32) (kf : jS → R) : R := match j_sh S.1 a with
  | some (101, n) => if j_in i n then kf (S.1, j_up S.2.1 a i.toNatClampNeg (vp_nar .byte v), S.2.2) else fail
  | some (102, n) => if j_in i n then kf (S.1, j_up S.2.1 a i.toNatClampNeg (vp_nar .boolean v), S.2.2) else fail
  | _ => fail
def j_lst {R : Type} (fail : R) (S : jS) (a : Nat) (i : Int32) (v : Int64) (kf : jS → R) : R := match j_sh S.1 a with
  | some (103, n) => if j_in i n then kf (S.1, S.2.1, j_up S.2.2.1 a i.toNatClampNeg v, S.2.2.2) else fail
  | _ => fail
def j_as {R : Type} (fail : R) (S : jS) (a : Nat) (i : Int32) (v : Nat) (kf : jS → R) : R := match j_sh S.1 a, j_sh S.1 v with
  | some (104, n), some (4, _) => if j_in i n then kf (S.1, S.2.1, S.2.2.1, j_up S.2.2.2 a i.toNatClampNeg (some v)) else fail
  | _, _ => fail
def j_al {R : Type} (T : jT) (fail : R) (S : jS) (a : Nat) (kf : Int32 → R) : R := match j_sh S.1 a with
  | some (c, n) => cond (Nat.ble 100 c && Nat.ble c 104) (kf (Int32.ofNat n)) fail
  | none => match T.1[a - 1000]? with
    | some l => cond (Nat.ble 1000 a) (kf (Int32.ofNat l.length)) fail
    | none => fail
/-- one instruction -/
def jone {R : Type} (T : jT) (fail : R) (kt : Nat → jL → List Value → jS → R) (cl : Nat → List Value → Nat → jL → List Value → jS → R) (rt : Option Value → jS → R) (e : jE) (ls : jL) (st : List Value) (S : jS) : R :=
  match e.2.1 with
  | .iconst _ => match e.2.2.2.2 with
    | .int v => kt (e.1 + e.2.2.1) ls (.int v :: st) S
    | _ => fail
  | .bipush _ => match e.2.2.2.2 with
    | .int v => kt (e.1 + e.2.2.1) ls (.int v :: st) S
    | _ => fail
  | .sipush _ => match e.2.2.2.2 with
    | .int v => kt (e.1 + e.2.2.1) ls (.int v :: st) S
    | _ => fail
  | .lconst _ => match e.2.2.2.2 with
    | .long v => kt (e.1 + e.2.2.1) ls (.long v :: st) S
    | _ => fail
  | .ldc _ => match e.2.2.2.2 with
    | .int v => kt (e.1 + e.2.2.1) ls (.int v :: st) S
    | .ref a => kt (e.1 + e.2.2.1) ls (.ref a :: st) S
    | _ => fail
  | .ldc_w _ => match e.2.2.2.2 with
    | .int v => kt (e.1 + e.2.2.1) ls (.int v :: st) S
    | .ref a => kt (e.1 + e.2.2.1) ls (.ref a :: st) S
    | _ => fail
  | .ldc2_w _ => match e.2.2.2.2 with
    | .long v => kt (e.1 + e.2.2.1) ls (.long v :: st) S
    | _ => fail
  | .iload_n n => match j_ld ls n with
    | some (.int x) => kt (e.1 + e.2.2.1) ls (.int x :: st) S
    | _ => fail
  | .iload n => match j_ld ls n with
    | some (.int x) => kt (e.1 + e.2.2.1) ls (.int x :: st) S
    | _ => fail
  | .lload_n n => match j_ld ls n with
    | some (.long x) => kt (e.1 + e.2.2.1) ls (.long x :: st) S
    | _ => fail
  | .lload n => match j_ld ls n with
    | some (.long x) => kt (e.1 + e.2.2.1) ls (.long x :: st) S
    | _ => fail
  | .aload_n n => match j_ld ls n with
    | some (.ref x) => kt (e.1 + e.2.2.1) ls (.ref x :: st) S
    | _ => fail
  | .aload n => match j_ld ls n with
    | some (.ref x) => kt (e.1 + e.2.2.1) ls (.ref x :: st) S
    | _ => fail
  | .istore_n n => match st with
    | .int x :: r => cond (Nat.blt n ls.length) (kt (e.1 + e.2.2.1) (j_sto1 ls n (.int x)) r S) fail
    | _ => fail
  | .istore n => match st with
    | .int x :: r => cond (Nat.blt n ls.length) (kt (e.1 + e.2.2.1) (j_sto1 ls n (.int x)) r S) fail
    | _ => fail
  | .lstore_n n => match st with
    | .long x :: r => cond (Nat.blt (n + 1) ls.length) (kt (e.1 + e.2.2.1) (j_sto2 ls n (.long x)) r S) fail
    | _ => fail
  | .lstore n => match st with
    | .long x :: r => cond (Nat.blt (n + 1) ls.length) (kt (e.1 + e.2.2.1) (j_sto2 ls n (.long x)) r S) fail
    | _ => fail
  | .astore_n n => match st with
    | .ref x :: r => cond (Nat.blt n ls.length) (kt (e.1 + e.2.2.1) (j_sto1 ls n (.ref x)) r S) fail
    | _ => fail
  | .astore n => match st with
    | .ref x :: r => cond (Nat.blt n ls.length) (kt (e.1 + e.2.2.1) (j_sto1 ls n (.ref x)) r S) fail
    | _ => fail
  | .iinc n _ => match j_ld ls n, e.2.2.2.2 with
    | some (.int x), .int d => cond (Nat.blt n ls.length) (kt (e.1 + e.2.2.1) (j_sto1 ls n (.int (x + d))) st S) fail
    | _, _ => fail
  | .iadd => match st with
    | .int y :: .int x :: r => kt (e.1 + e.2.2.1) ls (.int (x + y) :: r) S
    | _ => fail
  | .isub => match st with
    | .int y :: .int x :: r => kt (e.1 + e.2.2.1) ls (.int (x - y) :: r) S
    | _ => fail
  | .imul => match st with
    | .int y :: .int x :: r => kt (e.1 + e.2.2.1) ls (.int (x * y) :: r) S
    | _ => fail
  | .iand => match st with
    | .int y :: .int x :: r => kt (e.1 + e.2.2.1) ls (.int (x &&& y) :: r) S
    | _ => fail
  | .ior => match st with
    | .int y :: .int x :: r => kt (e.1 + e.2.2.1) ls (.int (x ||| y) :: r) S
    | _ => fail
  | .ixor => match st with
    | .int y :: .int x :: r => kt (e.1 + e.2.2.1) ls (.int (x ^^^ y) :: r) S
    | _ => fail
  | .ishl => match st with
    | .int y :: .int x :: r => kt (e.1 + e.2.2.1) ls (.int (x <<< (y &&& 31)) :: r) S
    | _ => fail
  | .ishr => match st with
    | .int y :: .int x :: r => kt (e.1 + e.2.2.1) ls (.int (x >>> (y &&& 31)) :: r) S
    | _ => fail
  | .iushr => match st with
    | .int y :: .int x :: r => kt (e.1 + e.2.2.1) ls (.int (x.toUInt32 >>> (y.toUInt32 &&& Int32.toUInt32 31)).toInt32 :: r) S
    | _ => fail
  | .idiv => match st with
    | .int y :: .int x :: r => if y = 0 then fail else kt (e.1 + e.2.2.1) ls (.int (x / y) :: r) S
    | _ => fail
  | .irem => match st with
    | .int y :: .int x :: r => if y = 0 then fail else kt (e.1 + e.2.2.1) ls (.int (x - x / y * y) :: r) S
    | _ => fail
  | .ineg => match st with
    | .int x :: r => kt (e.1 + e.2.2.1) ls (.int (-x) :: r) S
    | _ => fail
  | .ladd => match st with
    | .long y :: .long x :: r => kt (e.1 + e.2.2.1) ls (.long (x + y) :: r) S
    | _ => fail
  | .lsub => match st with
    | .long y :: .long x :: r => kt (e.1 + e.2.2.1) ls (.long (x - y) :: r) S
    | _ => fail
  | .lmul => match st with
    | .long y :: .long x :: r => kt (e.1 + e.2.2.1) ls (.long (x * y) :: r) S
    | _ => fail
  | .land => match st with
    | .long y :: .long x :: r => kt (e.1 + e.2.2.1) ls (.long (x &&& y) :: r) S
    | _ => fail
  | .lor => match st with
    | .long y :: .long x :: r => kt (e.1 + e.2.2.1) ls (.long (x ||| y) :: r) S
    | _ => fail
  | .lshl => match st with
    | .int y :: .long x :: r => kt (e.1 + e.2.2.1) ls (.long (x <<< (y.toInt64 &&& 63)) :: r) S
    | _ => fail
  | .lushr => match st with
    | .int y :: .long x :: r => kt (e.1 + e.2.2.1) ls (.long (x.toUInt64 >>> (y.toInt64.toUInt64 &&& Int64.toUInt64 63)).toInt64 :: r) S
    | _ => fail
  | .ldiv => match st with
    | .long y :: .long x :: r => if y = 0 then fail else kt (e.1 + e.2.2.1) ls (.long (x / y) :: r) S
    | _ => fail
  | .lrem => match st with
    | .long y :: .long x :: r => if y = 0 then fail else kt (e.1 + e.2.2.1) ls (.long (x - x / y * y) :: r) S
    | _ => fail
  | .lneg => match st with
    | .long x :: r => kt (e.1 + e.2.2.1) ls (.long (-x) :: r) S
    | _ => fail
  | .lcmp => match st with
    | .long y :: .long x :: r => kt (e.1 + e.2.2.1) ls (.int (lg_cmp x y) :: r) S
    | _ => fail
  | .i2l => match st with
    | .int x :: r => kt (e.1 + e.2.2.1) ls (.long x.toInt64 :: r) S
    | _ => fail
  | .l2i => match st with
    | .long x :: r => kt (e.1 + e.2.2.1) ls (.int x.toInt32 :: r) S
    | _ => fail
  | .i2b => match st with
    | .int x :: r => kt (e.1 + e.2.2.1) ls (.int x.toInt8.toInt32 :: r) S
    | _ => fail
  | .i2c => match st with
    | .int x :: r => kt (e.1 + e.2.2.1) ls (.int (x.toUInt32 % 65536).toInt32 :: r) S
    | _ => fail
  | .dup => match st with
    | .int x :: r => kt (e.1 + e.2.2.1) ls (.int x :: .int x :: r) S
    | .ref x :: r => kt (e.1 + e.2.2.1) ls (.ref x :: .ref x :: r) S
    | _ => fail
  | .pop => match st with
    | .int _ :: r => kt (e.1 + e.2.2.1) ls r S
    | .ref _ :: r => kt (e.1 + e.2.2.1) ls r S
    | _ => fail
  | .dup2 => match st with
    | .int x :: .ref a :: r => kt (e.1 + e.2.2.1) ls (.int x :: .ref a :: .int x :: .ref a :: r) S
    | .long x :: r => kt (e.1 + e.2.2.1) ls (.long x :: .long x :: r) S
    | _ => fail
  | .goto _ => match e.2.2.2.1 with
    | [t] => kt t ls st S
    | _ => fail
  | .ifCond c _ => match e.2.2.2.1, st with
    | [t], .int x :: r => j_br c x 0 (kt t ls r S) (kt (e.1 + e.2.2.1) ls r S)
    | _, _ => fail
  | .if_icmp c _ => match e.2.2.2.1, st with
    | [t], .int y :: .int x :: r => j_br c x y (kt t ls r S) (kt (e.1 + e.2.2.1) ls r S)
    | _, _ => fail
  | .tableswitch _ lo _ _ => match e.2.2.2.1, st with
    | d :: ts, .int x :: r => j_sw (fun t => kt t ls r S) d x lo ts
    | _, _ => fail
  | .lookupswitch _ ps => match e.2.2.2.1, st with
    | d :: ts, .int x :: r => j_sw2 (fun t => kt t ls r S) d x ps.toList ts
    | _, _ => fail
  | .getfield _ => match e.2.2.2.1, st with
    | [ci, k, tc, _, _], .ref o :: r => match j_sh S.1 o with
      | some (c, n) => cond (c.beq ci && Nat.blt k n) (match tc with
        | 0 => kt (e.1 + e.2.2.1) ls (.int (S.2.1 o k) :: r) S
        | 1 => kt (e.1 + e.2.2.1) ls (.long (S.2.2.1 o k) :: r) S
        | 2 => kt (e.1 + e.2.2.1) ls (j_rf (S.2.2.2 o k) :: r) S
        | _ => kt (e.1 + e.2.2.1) ls (.int (S.2.1 o k) :: r) S) fail
      | none => fail
    | _, _ => fail
  | .putfield _ => match e.2.2.2.1, st with
    | [ci, k, tc, _, _], .int v :: .ref o :: r => match j_sh S.1 o with
      | some (c, n) => cond (c.beq ci && Nat.blt k n) (match tc with
        | 0 => kt (e.1 + e.2.2.1) ls r (S.1, j_up S.2.1 o k v, S.2.2)
        | 3 => if vp_nar .boolean v = v then kt (e.1 + e.2.2.1) ls r (S.1, j_up S.2.1 o k v, S.2.2) else fail
        | _ => fail) fail
      | none => fail
    | [ci, k, tc, _, _], .long v :: .ref o :: r => match j_sh S.1 o with
      | some (c, n) => cond (c.beq ci && Nat.blt k n) (match tc with
        | 1 => kt (e.1 + e.2.2.1) ls r (S.1, S.2.1, j_up S.2.2.1 o k v, S.2.2.2)
        | _ => fail) fail
      | none => fail
    | [ci, k, tc, _, _], .ref v :: .ref o :: r => match j_sh S.1 o with
      | some (c, n) => cond (c.beq ci && Nat.blt k n) (match tc with
        | 2 => kt (e.1 + e.2.2.1) ls r (S.1, S.2.1, S.2.2.1, j_up S.2.2.2 o k (some v))
        | _ => fail) fail
      | none => fail
    | _, _ => fail
  | .getstatic _ => match e.2.2.2.1 with
    | q :: _ => kt (e.1 + e.2.2.1) ls (.ref (1000 + q) :: st) S
    | _ => fail
  | .iaload => match st with
    | .int i :: .ref a :: r => j_ia T fail S a i (fun v => kt (e.1 + e.2.2.1) ls (.int v :: r) S)
    | _ => fail
  | .baload => match st with
    | .int i :: .ref a :: r => j_ba fail S a i (fun v => kt (e.1 + e.2.2.1) ls (.int v :: r) S)
    | _ => fail
  | .laload => match st with
    | .int i :: .ref a :: r => j_la fail S a i (fun v => kt (e.1 + e.2.2.1) ls (.long v :: r) S)
    | _ => fail
  | .aaload => match st with
    | .int i :: .ref a :: r => j_aa fail S a i (fun v => kt (e.1 + e.2.2.1) ls (v :: r) S)
    | _ => fail
  | .iastore => match st with
    | .int v :: .int i :: .ref a :: r => j_is fail S a i v (fun S' => kt (e.1 + e.2.2.1) ls r S')
    | _ => fail
  | .bastore => match st with
    | .int v :: .int i :: .ref a :: r => j_bs fail S a i v (fun S' => kt (e.1 + e.2.2.1) ls r S')
    | _ => fail
  | .lastore => match st with
    | .long v :: .int i :: .ref a :: r => j_lst fail S a i v (fun S' => kt (e.1 + e.2.2.1) ls r S')
    | _ => fail
  | .aastore => match st with
    | .ref v :: .int i :: .ref a :: r => j_as fail S a i v (fun S' => kt (e.1 + e.2.2.1) ls r S')
    | _ => fail
  | .arraylength => match st with
    | .ref a :: r => j_al T fail S a (fun v => kt (e.1 + e.2.2.1) ls (.int v :: r) S)
    | _ => fail
  | .newarray _ => match e.2.2.2.1, st with
    | k :: _, .int n :: r => if n < 0 then fail else cond (Nat.ble n.toNatClampNeg 1000000 && Nat.ble S.1.length 900)
        (match k with
        | 103 => kt (e.1 + e.2.2.1) ls (.ref S.1.length :: r) (S.1 ++ [(103, n.toNatClampNeg)], S.2.1, va_up S.2.2.1 S.1.length (fun _ => 0), S.2.2.2)
        | k => kt (e.1 + e.2.2.1) ls (.ref S.1.length :: r) (S.1 ++ [(k, n.toNatClampNeg)], va_up S.2.1 S.1.length (fun _ => 0), S.2.2)) fail
    | _, _ => fail
  | .anewarray _ => match st with
    | .int n :: r => if n < 0 then fail else cond (Nat.ble n.toNatClampNeg 1000000 && Nat.ble S.1.length 900)
        (kt (e.1 + e.2.2.1) ls (.ref S.1.length :: r) (S.1 ++ [(104, n.toNatClampNeg)], S.2.1, S.2.2.1, va_up S.2.2.2 S.1.length (fun _ => none))) fail
    | _ => fail
  | .new _ => match e.2.2.2.1 with
    | ci :: n :: _ => cond (Nat.ble S.1.length 900) (kt (e.1 + e.2.2.1) ls (.ref S.1.length :: st) (S.1 ++ [(ci, n)], va_up S.2.1 S.1.length (fun _ => 0), va_up S.2.2.1 S.1.length (fun _ => 0), va_up S.2.2.2 S.1.length (fun _ => none))) fail
    | _ => fail
  | .invokestatic _ => match e.2.2.2.1 with
    | 0 :: k :: n :: _ => match j_pop n st [] with
      | some (as, r) => cond (Nat.ble (j_sum r) 8) (cl k as (e.1 + e.2.2.1) ls r S) fail
      | none => fail
    | 10 :: _ => match st with
      | .int y :: .int x :: r => cond (Nat.ble (j_sum r) 8) (kt (e.1 + e.2.2.1) ls (.int (if x < y then y else x) :: r) S) fail
      | _ => fail
    | 11 :: _ => match st with
      | .int y :: .int x :: r => cond (Nat.ble (j_sum r) 8) (kt (e.1 + e.2.2.1) ls (.int (if y < x then y else x) :: r) S) fail
      | _ => fail
    | 12 :: _ => match st with
      | .long x :: r => cond (Nat.ble (j_sum r) 8) (kt (e.1 + e.2.2.1) ls (.long (if 0 < x then x else -x) :: r) S) fail
      | _ => fail
    | 13 :: _ => match st with
      | .int n :: .int dp :: .ref d :: .int sp :: .ref a :: r => match j_sh S.1 a, j_sh S.1 d with
        | some (100, n0), some (100, n1) => if n < 0 ∨ sp < 0 ∨ dp < 0 ∨ n0 < sp.toNatClampNeg + n.toNatClampNeg ∨ n1 < dp.toNatClampNeg + n.toNatClampNeg ∨ a = d then fail
            else cond (Nat.ble (j_sum r) 8) (kt (e.1 + e.2.2.1) ls r (S.1, va_up S.2.1 d (va_cpy (S.2.1 a) (S.2.1 d) sp.toNatClampNeg dp.toNatClampNeg n.toNatClampNeg), S.2.2)) fail
        | _, _ => fail
      | _ => fail
    | _ => fail
  | .invokevirtual _ => match e.2.2.2.1 with
    | 1 :: k :: n :: ci :: _ => match j_pop n st [] with
      | some (as, .ref o :: r) => match j_sh S.1 o with
        | some (c, _) => cond (c.beq ci && Nat.ble (j_sum r) 8) (cl k (.ref o :: as) (e.1 + e.2.2.1) ls r S) fail
        | none => fail
      | _ => fail
    | 20 :: _ => match st with
      | .ref a :: r => match T.2[a - 2000]? with
        | some l => cond (Nat.ble 2000 a && Nat.ble (j_sum r) 8) (kt (e.1 + e.2.2.1) ls (.int (Int32.ofNat l.length) :: r) S) fail
        | none => fail
      | _ => fail
    | 21 :: _ => match st with
      | .int i :: .ref a :: r => match T.2[a - 2000]? with
        | some l => cond (Nat.ble 2000 a && Nat.ble (j_sum r) 8) (if j_in i l.length then kt (e.1 + e.2.2.1) ls (.int (l.getD i.toNatClampNeg 0 &&& 255) :: r) S else fail) fail
        | none => fail
      | _ => fail
    | 22 :: _ => match st with
      | .int c :: .ref a :: r => match T.2[a - 2000]? with
        | some l => cond (Nat.ble 2000 a && Nat.ble (j_sum r) 8) (kt (e.1 + e.2.2.1) ls (.int (j_ix c l 0) :: r) S) fail
        | none => fail
      | _ => fail
    | _ => fail
  | .invokespecial _ => match e.2.2.2.1 with
    | 2 :: k :: n :: _ => match j_pop n st [] with
      | some (as, .ref o :: r) => cond (Nat.ble (j_sum r) 8) (cl k (.ref o :: as) (e.1 + e.2.2.1) ls r S) fail
      | _ => fail
    | 5 :: _ => match st with
      | .ref _ :: r => cond (Nat.ble (j_sum r) 8) (kt (e.1 + e.2.2.1) ls r S) fail
      | _ => fail
    | _ => fail
  | .ireturn => match e.2.2.2.1, st with
    | [0], [.int v] => rt (some (.int v)) S
    | [1], [.int v] => if vp_nar .boolean v = v then rt (some (.int v)) S else fail
    | _, _ => fail
  | .lreturn => match st with
    | [.long v] => rt (some (.long v)) S
    | _ => fail
  | .areturn => match st with
    | [.ref v] => rt (some (.ref v)) S
    | _ => fail
  | .return_ => match st with
    | [] => rt none S
    | _ => fail
  | _ => fail
