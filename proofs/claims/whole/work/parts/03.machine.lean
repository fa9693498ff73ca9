/-! the machine of numbers: cells by their order, whole numbers, longs and references in them -/
abbrev Lo : Type := List (Option Value)
abbrev Mm : Type := List (Nat × Nat) × (Nat → Nat → Int32) × (Nat → Nat → Int64) × (Nat → Nat → Option Nat)
abbrev Sc : Type := Nat × (Nat → Int32)
abbrev R4 : Type := Option (Nat × Lo × List Value × Mm)
def ldL : Lo → Nat → Option Value
  | [], _ => none
  | o :: _, 0 => o
  | _ :: t, i + 1 => ldL t i
def clrL : Lo → Lo
  | [] => []
  | _ :: t => none :: t
def c2L : Option Value → Bool
  | some (.long _) => true
  | some (.double _) => true
  | _ => false
def stL : Lo → Nat → Value → Lo
  | [], _, _ => []
  | _ :: t, 0, v => some v :: (if v.category = 2 then clrL t else t)
  | o :: t, 1, v => (if c2L o then none else o) :: stL t 0 v
  | o :: t, i + 2, v => o :: stL t (i + 1) v
def upI (s : Mm) (c k : Nat) (v : Int32) : Mm := (s.1, fun c' k' => if c' = c ∧ k' = k then v else s.2.1 c' k', s.2.2.1, s.2.2.2)
def upJ (s : Mm) (c k : Nat) (v : Int64) : Mm := (s.1, s.2.1, fun c' k' => if c' = c ∧ k' = k then v else s.2.2.1 c' k', s.2.2.2)
def upR (s : Mm) (c k : Nat) (v : Option Nat) : Mm := (s.1, s.2.1, s.2.2.1, fun c' k' => if c' = c ∧ k' = k then v else s.2.2.2 c' k')
def upC (s : Mm) (c0 c1 sp dp n : Nat) : Mm := (s.1, fun c' k' => if c' = c1 ∧ dp ≤ k' ∧ k' < dp + n then s.2.1 c0 (sp + (k' - dp)) else s.2.1 c' k', s.2.2.1, s.2.2.2)
def kdM (s : Mm) (c : Nat) : Option (Nat × Nat) := nthO s.1 c
/-- a new cell: all its places are 0 or none -/
def newM (s : Mm) (k : Nat × Nat) : Mm := (s.1 ++ [k], fun c' k' => if c' = s.1.length then 0 else s.2.1 c' k', fun c' k' => if c' = s.1.length then 0 else s.2.2.1 c' k', fun c' k' => if c' = s.1.length then none else s.2.2.2 c' k')
/-- rows that are only read: the script, four tables, the bytes of two texts -/
def roA (sc : Sc) (c : Nat) : Option Sc := if c = 1000 then some sc else match nthO roT (c - 1001) with
  | some l => some (l.length, fun j => l.getD j 0)
  | none => none
def roB (c : Nat) : Option Sc := if c < 1007 then none else match nthO roTB (c - 1007) with
  | some l => some (l.length, fun j => l.getD j 0)
  | none => none
def arI (sc : Sc) (s : Mm) (c : Nat) : Option Sc := if c < 1000 then (match kdM s c with
  | some (1, n) => some (n, s.2.1 c)
  | _ => none) else roA sc c
def roF (c f : Nat) : Option Value := if c = 1005 ∨ c = 1006 then (if f = 0 then some (.ref (c + 2)) else some (.int 0)) else none
def valR (o : Option Nat) : Value := match o with
  | some a => .ref a
  | none => .null
def fldA (s : Mm) (c k t : Nat) : Value := match t with
  | 1 => .long (s.2.2.1 c k)
  | 2 => valR (s.2.2.2 c k)
  | _ => .int (s.2.1 c k)
def szK (cn : List Nat) : List (Nat × Nat) → Nat
  | [] => 0
  | k :: t => (if k.1 = 0 then cn.getD k.2 0 else k.2) + szK cn t
section Ops
variable (i : Nat) (ls : Lo) (st : List Value) (s : Mm)
def puV (v : Value) : R4 := some (i + 1, ls, v :: st, s)
def ldI (k : Nat) : R4 := match ldL ls k with
  | some (.int x) => some (i + 1, ls, .int x :: st, s)
  | _ => none
def ldJ (k : Nat) : R4 := match ldL ls k with
  | some (.long x) => some (i + 1, ls, .long x :: st, s)
  | _ => none
def ldA (k : Nat) : R4 := match ldL ls k with
  | some (.ref x) => some (i + 1, ls, .ref x :: st, s)
  | some .null => some (i + 1, ls, .null :: st, s)
  | _ => none
def stI (k : Nat) : R4 := if k < ls.length then (match st with
  | .int x :: r => some (i + 1, stL ls k (.int x), r, s)
  | _ => none) else none
def stJ (k : Nat) : R4 := if k + 1 < ls.length then (match st with
  | .long x :: r => some (i + 1, stL ls k (.long x), r, s)
  | _ => none) else none
def stA (k : Nat) : R4 := if k < ls.length then (match st with
  | .ref x :: r => some (i + 1, stL ls k (.ref x), r, s)
  | .null :: r => some (i + 1, stL ls k .null, r, s)
  | _ => none) else none
def incI (k : Nat) (n : Int) : R4 := if k < ls.length then (match ldL ls k with
  | some (.int x) => some (i + 1, stL ls k (.int (x + Int32.ofInt n)), st, s)
  | _ => none) else none
def biI (f : Int32 → Int32 → Int32) : R4 := match st with
  | .int y :: .int x :: r => some (i + 1, ls, .int (f x y) :: r, s)
  | _ => none
def biZ (f : Int32 → Int32 → Int32) : R4 := match st with
  | .int y :: .int x :: r => if y = 0 then none else some (i + 1, ls, .int (f x y) :: r, s)
  | _ => none
def unI (f : Int32 → Value) : R4 := match st with
  | .int x :: r => some (i + 1, ls, f x :: r, s)
  | _ => none
def unJ (f : Int64 → Value) : R4 := match st with
  | .long x :: r => some (i + 1, ls, f x :: r, s)
  | _ => none
def biJ (f : Int64 → Int64 → Value) : R4 := match st with
  | .long y :: .long x :: r => some (i + 1, ls, f x y :: r, s)
  | _ => none
def bzJ (f : Int64 → Int64 → Int64) : R4 := match st with
  | .long y :: .long x :: r => if y = 0 then none else some (i + 1, ls, .long (f x y) :: r, s)
  | _ => none
def shJ (f : Int64 → Int32 → Int64) : R4 := match st with
  | .int y :: .long x :: r => some (i + 1, ls, .long (f x y) :: r, s)
  | _ => none
def dupV : R4 := match st with
  | v :: r => if v.category = 1 then some (i + 1, ls, v :: v :: r, s) else none
  | _ => none
def dup2V : R4 := match st with
  | v :: w :: r => if v.category = 1 ∧ w.category = 1 then some (i + 1, ls, v :: w :: v :: w :: r, s) else if v.category = 2 then some (i + 1, ls, v :: v :: w :: r, s) else none
  | [v] => if v.category = 2 then some (i + 1, ls, [v, v], s) else none
  | _ => none
def popV : R4 := match st with
  | v :: r => if v.category = 1 then some (i + 1, ls, r, s) else none
  | _ => none
def hold (c : ClassFile.Cond) (x y : Int32) : Bool := match c with
  | .eq => decide (x = y)
  | .ne => decide (¬ x = y)
  | .lt => decide (x < y)
  | .ge => decide (y ≤ x)
  | .gt => decide (y < x)
  | .le => decide (x ≤ y)
def ifC (c : ClassFile.Cond) (t : Nat) : R4 := match st with
  | .int x :: r => if hold c x 0 = true then some (t, ls, r, s) else some (i + 1, ls, r, s)
  | _ => none
def ifI (c : ClassFile.Cond) (t : Nat) : R4 := match st with
  | .int y :: .int x :: r => if hold c x y = true then some (t, ls, r, s) else some (i + 1, ls, r, s)
  | _ => none
def ifN (t : Nat) : R4 := match st with
  | .null :: r => some (t, ls, r, s)
  | .ref _ :: r => some (i + 1, ls, r, s)
  | _ => none
def swT (lo hi : Int) (ts : List Nat) : R4 := match st, ts with
  | .int x :: r, d :: us => if x.toInt < lo ∨ hi < x.toInt then some (d, ls, r, s) else (match nthO us (x.toInt - lo).toNat with
    | some t => some (t, ls, r, s)
    | none => none)
  | _, _ => none
def gF (ops : List Nat) : R4 := match st, ops with
  | .ref c :: r, ci :: k :: t :: _ => if c < 1000 then (if kdM s c = some (0, ci) then some (i + 1, ls, fldA s c k t :: r, s) else none) else if ci = 100 then (match roF c k with
        | some v => some (i + 1, ls, v :: r, s)
        | none => none) else none
  | _, _ => none
def pF (ops : List Nat) : R4 := match st, ops with
  | v :: .ref c :: r, [ci, k, t, _, _] => if c < 1000 ∧ kdM s c = some (0, ci) then (match t, v with
      | 0, .int x => some (i + 1, ls, r, upI s c k x)
      | 3, .int x => if x = 0 ∨ x = 1 then some (i + 1, ls, r, upI s c k x) else none
      | 1, .long x => some (i + 1, ls, r, upJ s c k x)
      | 2, .ref a => if a < s.1.length then some (i + 1, ls, r, upR s c k (some a)) else none
      | _, _ => none) else none
  | _, _ => none
def alI (sc : Sc) : R4 := match st with
  | .int j :: .ref c :: r => (match arI sc s c with
    | some (n, f) => if j < 0 ∨ n ≤ j.toNatClampNeg then none else some (i + 1, ls, .int (f j.toNatClampNeg) :: r, s)
    | none => none)
  | _ => none
def asI : R4 := match st with
  | .int x :: .int j :: .ref c :: r => if c < 1000 then (match kdM s c with
    | some (1, n) => if j < 0 ∨ n ≤ j.toNatClampNeg then none else some (i + 1, ls, r, upI s c j.toNatClampNeg x)
    | _ => none) else none
  | _ => none
def alJ : R4 := match st with
  | .int j :: .ref c :: r => if c < 1000 then (match kdM s c with
    | some (2, n) => if j < 0 ∨ n ≤ j.toNatClampNeg then none else some (i + 1, ls, .long (s.2.2.1 c j.toNatClampNeg) :: r, s)
    | _ => none) else none
  | _ => none
def asJ : R4 := match st with
  | .long x :: .int j :: .ref c :: r => if c < 1000 then (match kdM s c with
    | some (2, n) => if j < 0 ∨ n ≤ j.toNatClampNeg then none else some (i + 1, ls, r, upJ s c j.toNatClampNeg x)
    | _ => none) else none
  | _ => none
def alB : R4 := match st with
  | .int j :: .ref c :: r => if c < 1000 then (match kdM s c with
    | some (3, n) => if j < 0 ∨ n ≤ j.toNatClampNeg then none else some (i + 1, ls, .int (s.2.1 c j.toNatClampNeg) :: r, s)
    | _ => none) else (match roB c with
    | some (n, f) => if j < 0 ∨ n ≤ j.toNatClampNeg then none else some (i + 1, ls, .int (f j.toNatClampNeg) :: r, s)
    | none => none)
  | _ => none
def asB : R4 := match st with
  | .int x :: .int j :: .ref c :: r => if c < 1000 ∧ (x = 0 ∨ x = 1) then (match kdM s c with
    | some (3, n) => if j < 0 ∨ n ≤ j.toNatClampNeg then none else some (i + 1, ls, r, upI s c j.toNatClampNeg x)
    | _ => none) else none
  | _ => none
def alA : R4 := match st with
  | .int j :: .ref c :: r => if c < 1000 then (match kdM s c with
    | some (4, n) => if j < 0 ∨ n ≤ j.toNatClampNeg then none else some (i + 1, ls, valR (s.2.2.2 c j.toNatClampNeg) :: r, s)
    | _ => none) else none
  | _ => none
def asA : R4 := match st with
  | .ref a :: .int j :: .ref c :: r => if c < 1000 ∧ a < 1000 ∧ kdM s a = some (0, 8) then (match kdM s c with
    | some (4, n) => if j < 0 ∨ n ≤ j.toNatClampNeg then none else some (i + 1, ls, r, upR s c j.toNatClampNeg (some a))
    | _ => none) else none
  | _ => none
def alN (sc : Sc) : R4 := match st with
  | .ref c :: r => if c < 1000 then (match kdM s c with
    | some (1, n) => some (i + 1, ls, .int (Int32.ofNat n) :: r, s)
    | _ => none) else if c = 1000 then some (i + 1, ls, .int (Int32.ofNat sc.1) :: r, s) else (match roB c with
    | some (n, _) => some (i + 1, ls, .int (Int32.ofNat n) :: r, s)
    | none => none)
  | _ => none
def nwA (t : Nat) : R4 := match st with
  | .int n :: r => if n < 0 ∨ 5000 < n.toNatClampNeg ∨ 900 < s.1.length then none else some (i + 1, ls, .ref s.1.length :: r, newM s (t, n.toNatClampNeg))
  | _ => none
def nwO (ops : List Nat) : R4 := match ops with
  | ci :: _ => if 900 < s.1.length then none else some (i + 1, ls, .ref s.1.length :: st, newM s (0, ci))
  | _ => none
def cpA : R4 := match st with
  | .int n :: .int dp :: .ref c1 :: .int sp :: .ref c0 :: r => if c0 < 1000 ∧ c1 < 1000 ∧ (r.map fun v => v.category).sum ≤ 8 then (match kdM s c0, kdM s c1 with
    | some (1, n0), some (1, n1) => if sp < 0 ∨ dp < 0 ∨ n < 0 ∨ n0 < sp.toNatClampNeg + n.toNatClampNeg ∨ n1 < dp.toNatClampNeg + n.toNatClampNeg then none else some (i + 1, ls, r, upC s c0 c1 sp.toNatClampNeg dp.toNatClampNeg n.toNatClampNeg)
    | _, _ => none) else none
  | _ => none
def gS (ops : List Nat) : R4 := match ops with
  | x :: _ => if x = 1010 then puV i ls st s (.int 1) else if x = 1009 then puV i ls st s (.retAddr 0) else if 1000 < x ∧ x < 1005 then puV i ls st s (.ref x) else none
  | _ => none
def ldS (ops : List Nat) (kc : Int) : R4 := match ops with
  | 0 :: _ => puV i ls st s (.int (Int32.ofInt kc))
  | 1 :: x :: _ => if x = 1005 ∨ x = 1006 then puV i ls st s (.ref x) else none
  | _ => none
def mxI (f : Int32 → Int32 → Int32) : R4 := match st with
  | .int y :: .int x :: r => if (r.map fun v => v.category).sum ≤ 8 then some (i + 1, ls, .int (f x y) :: r, s) else none
  | _ => none
def mxJ (f : Int64 → Int64 → Int64) : R4 := match st with
  | .long y :: .long x :: r => if (r.map fun v => v.category).sum ≤ 8 then some (i + 1, ls, .long (f x y) :: r, s) else none
  | _ => none
def pmS (ops : List Nat) : R4 := match ops with
  | 2 :: _ => cpA i ls st s
  | 5 :: _ => mxI i ls st s (fun x y => if x < y then y else x)
  | 6 :: _ => mxI i ls st s (fun x y => if y < x then y else x)
  | 7 :: _ => mxJ i ls st s (fun x y => if y < x then x else y)
  | 8 :: _ => mxJ i ls st s (fun x y => if y < x then y else x)
  | _ => none
def obI : R4 := match st with
  | .ref _ :: r => if (r.map fun v => v.category).sum ≤ 8 then some (i + 1, ls, r, s) else none
  | _ => none
end Ops
/-- one instruction that neither calls nor ends -/
def st1 (sc : Sc) (e : Ea) (i : Nat) (ls : Lo) (st : List Value) (s : Mm) : R4 :=
  match e.2.1 with
  | .aconst_null => puV i ls st s .null
  | .iconst n => puV i ls st s (.int (Int32.ofInt n))
  | .bipush n => puV i ls st s (.int (Int8.ofInt n).toInt32)
  | .sipush n => puV i ls st s (.int (Int16.ofInt n).toInt32)
  | .lconst n => puV i ls st s (.long (Int64.ofNat n))
  | .ldc _ => ldS i ls st s e.2.2.2.2.1 e.2.2.2.2.2
  | .ldc_w _ => puV i ls st s (.int (Int32.ofInt e.2.2.2.2.2))
  | .ldc2_w _ => puV i ls st s (.long (Int64.ofInt e.2.2.2.2.2))
  | .iload_n k => ldI i ls st s k
  | .iload k => ldI i ls st s k
  | .lload_n k => ldJ i ls st s k
  | .lload k => ldJ i ls st s k
  | .aload_n k => ldA i ls st s k
  | .aload k => ldA i ls st s k
  | .istore_n k => stI i ls st s k
  | .istore k => stI i ls st s k
  | .lstore_n k => stJ i ls st s k
  | .lstore k => stJ i ls st s k
  | .astore_n k => stA i ls st s k
  | .astore k => stA i ls st s k
  | .iinc k n => incI i ls st s k n
  | .iadd => biI i ls st s (fun x y => x + y)
  | .isub => biI i ls st s (fun x y => x - y)
  | .imul => biI i ls st s (fun x y => x * y)
  | .idiv => biZ i ls st s (fun x y => x / y)
  | .irem => biZ i ls st s (fun x y => x - x / y * y)
  | .ineg => unI i ls st s (fun x => .int (-x))
  | .iand => biI i ls st s (fun x y => x &&& y)
  | .ior => biI i ls st s (fun x y => x ||| y)
  | .ixor => biI i ls st s (fun x y => x ^^^ y)
  | .ishl => biI i ls st s (fun x y => x <<< (y &&& 31))
  | .ishr => biI i ls st s (fun x y => x >>> (y &&& 31))
  | .iushr => biI i ls st s (fun x y => (x.toUInt32 >>> (y.toUInt32 &&& Int32.toUInt32 31)).toInt32)
  | .i2l => unI i ls st s (fun x => .long x.toInt64)
  | .i2c => unI i ls st s (fun x => .int (x.toUInt32 % 65536).toInt32)
  | .i2b => unI i ls st s (fun x => .int x.toInt8.toInt32)
  | .l2i => unJ i ls st s (fun x => .int x.toInt32)
  | .lneg => unJ i ls st s (fun x => .long (-x))
  | .ladd => biJ i ls st s (fun x y => .long (x + y))
  | .lsub => biJ i ls st s (fun x y => .long (x - y))
  | .lmul => biJ i ls st s (fun x y => .long (x * y))
  | .land => biJ i ls st s (fun x y => .long (x &&& y))
  | .lor => biJ i ls st s (fun x y => .long (x ||| y))
  | .lcmp => biJ i ls st s (fun x y => .int (lg_cmp x y))
  | .ldiv => bzJ i ls st s (fun x y => x / y)
  | .lrem => bzJ i ls st s (fun x y => x - x / y * y)
  | .lshl => shJ i ls st s (fun x y => x <<< (y.toInt64 &&& 63))
  | .lshr => shJ i ls st s (fun x y => x >>> (y.toInt64 &&& 63))
  | .dup => dupV i ls st s
  | .dup2 => dup2V i ls st s
  | .pop => popV i ls st s
  | .goto _ => (match e.2.2.2.2.1 with
    | t :: _ => some (t, ls, st, s)
    | _ => none)
  | .ifCond c _ => (match e.2.2.2.2.1 with
    | t :: _ => ifC i ls st s c t
    | _ => none)
  | .if_icmp c _ => (match e.2.2.2.2.1 with
    | t :: _ => ifI i ls st s c t
    | _ => none)
  | .ifnull _ => (match e.2.2.2.2.1 with
    | t :: _ => ifN i ls st s t
    | _ => none)
  | .tableswitch _ lo hi _ => swT ls st s lo hi e.2.2.2.2.1
  | .getfield _ => gF i ls st s e.2.2.2.2.1
  | .putfield _ => pF i ls st s e.2.2.2.2.1
  | .getstatic _ => gS i ls st s e.2.2.2.2.1
  | .iaload => alI i ls st s sc
  | .iastore => asI i ls st s
  | .laload => alJ i ls st s
  | .lastore => asJ i ls st s
  | .baload => alB i ls st s
  | .bastore => asB i ls st s
  | .aaload => alA i ls st s
  | .aastore => asA i ls st s
  | .arraylength => alN i ls st s sc
  | .newarray .int => nwA i ls st s 1
  | .newarray .long => nwA i ls st s 2
  | .newarray .boolean => nwA i ls st s 3
  | .anewarray _ => nwA i ls st s 4
  | .new _ => nwO i ls st s e.2.2.2.2.1
  | .invokestatic _ => pmS i ls st s e.2.2.2.2.1
  | .invokespecial _ => obI i ls st s
  | _ => none
/-- the arguments off the stack, the receiver first -/
def popN : Nat → List Value → List Value → Option (List Value × List Value)
  | 0, acc, st => some (acc, st)
  | _ + 1, _, [] => none
  | n + 1, acc, v :: st => popN n (v :: acc) st
def entL : List Value → Lo
  | [] => []
  | v :: vs => if v.category = 2 then some v :: none :: entL vs else some v :: entL vs
def padL : Nat → Lo → Lo
  | 0, l => l
  | n + 1, [] => none :: padL n []
  | n + 1, o :: t => o :: padL n t
/-- how a method ends -/
def rtV (r : Option FieldType) (op : Instr) (st : List Value) : Option (Option Value) := match op, r, st with
  | .return_, none, [] => some none
  | .ireturn, some .int, [.int x] => some (some (.int x))
  | .ireturn, some .boolean, [.int x] => if x = 0 ∨ x = 1 then some (some (.int x)) else none
  | .ireturn, some .char, [.int x] => if (x.toUInt32 % 65536).toInt32 = x then some (some (.int x)) else none
  | .ireturn, some .byte, [.int x] => if x.toInt8.toInt32 = x then some (some (.int x)) else none
  | .lreturn, some .long, [.long x] => some (some (.long x))
  | .areturn, some (.object _), [.ref a] => some (some (.ref a))
  | .areturn, some (.object _), [.null] => some (some .null)
  | _, _, _ => none
/-- the receiver is of the class that the method is of -/
def rcv (s : Mm) (kind cj : Nat) (as : List Value) : Bool := if kind = 0 then (match as with
  | .ref c :: _ => if c < 1000 then decide (kdM s c = some (0, cj)) else decide (cj = 100 ∧ (c = 1005 ∨ c = 1006))
  | _ => false) else if kind = 2 ∨ kind = 5 then (match as with
  | .ref c :: _ => decide (c < 1000)
  | _ => false) else true
/-- n turns at most, d calls open at once at most -/
noncomputable def run (sc : Sc) : Nat → Nat → Nat → Nat → Lo → List Value → Mm → Option (Option Value × Mm)
  | 0, _, _, _, _, _, _ => none
  | n + 1, d, mi, i, ls, st, s => match at_ mi i with
    | none => none
    | some e => match e.1 with
      | 0 => (match st1 sc e i ls st s with
        | some (i', ls', st', s') => run sc n d mi i' ls' st' s'
        | none => none)
      | 1 => (match d, e.2.2.2.2.1 with
        | d' + 1, mj :: na :: kind :: _ => (match popN na [] st with
          | some (as, r) => if (r.map fun v => v.category).sum ≤ 8 ∧ rcv s kind (mCi mj) as = true ∧ (entL as).length ≤ mLo mj then (match run sc n d' mj 0 (padL (mLo mj) (entL as)) [] s with
            | some (v, s') => run sc n d mi (i + 1) ls (v.toList ++ r) s'
            | none => none) else none
          | none => none)
        | _, _ => none)
      | 2 => (match rtV (mRt mi) e.2.1 st with
        | some v => some (v, s)
        | none => none)
      | _ => none
