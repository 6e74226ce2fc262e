/-! THE SMALL MACHINE: an interpreter over resolved instructions and a plain memory. A memory is (shapes, ints, longs, refs): shapes lists the cells
in the order of their making: (t, n) with t < 10 an array of type t (0 int, 1 boolean, 2 byte, 3 long, 4 House, 5 Act) of n places, t = 10 + ci an object of class ci.
Ids of cells are their places in that list; ids from mx on are what was there before: mx the row WITHOUT_LINE, mx + 1 + k string k, mx + 11 + k its bytes, mx + 20 the script. -/
abbrev Mm : Type := List (Nat × Nat) × (Nat → Nat → Int32) × (Nat → Nat → Int64) × (Nat → Nat → Option Nat)
abbrev Lz : Type := List (Option Value)
abbrev Sz : Type := Bool × Nat × Lz × List Value × Mm
def mx : Nat := 1000000
def up2 {α : Type} (f : Nat → Nat → α) (a k : Nat) (v : α) : Nat → Nat → α := fun x => if x = a then (fun y => if y = k then v else f a y) else f x
def up1 {α : Type} (f : Nat → Nat → α) (a : Nat) (g : Nat → α) : Nat → Nat → α := fun x => if x = a then g else f x
def wI (M : Mm) (a k : Nat) (v : Int32) : Mm := (M.1, up2 M.2.1 a k v, M.2.2.1, M.2.2.2)
def wL (M : Mm) (a k : Nat) (v : Int64) : Mm := (M.1, M.2.1, up2 M.2.2.1 a k v, M.2.2.2)
def wR (M : Mm) (a k : Nat) (v : Option Nat) : Mm := (M.1, M.2.1, M.2.2.1, up2 M.2.2.2 a k v)
def wA (M : Mm) (a : Nat) (g : Nat → Int32) : Mm := (M.1, up1 M.2.1 a g, M.2.2.1, M.2.2.2)
def mNew (M : Mm) (t n : Nat) : Mm := (M.1 ++ [(t, n)], up1 M.2.1 M.1.length (fun _ => 0), up1 M.2.2.1 M.1.length (fun _ => 0), up1 M.2.2.2 M.1.length (fun _ => none))
def inb (j : Int32) (n : Nat) : Bool := decide (¬ j < 0) && decide (j.toNatClampNeg < n)
def mrf (r : Option Nat) : Value := match r with
  | none => .null
  | some a => .ref a
def rok (r : Option Nat) : Bool := match r with
  | none => true
  | some a => decide (a < mx)
/-- a local, if it is known -/
def lzg (ls : Lz) (i : Nat) : Option Value := (ls[i]?).join
def lzl (v : Option Value) : Bool := match v with
  | some (.long _) => true
  | _ => false
def lzp (ls : Lz) (i : Nat) (v : Value) : Lz := match i with
  | 0 => ls.set 0 (some v)
  | j + 1 => if lzl (lzg ls j) = true then (ls.set j none).set (j + 1) (some v) else ls.set (j + 1) (some v)
/-- strings: their bytes -/
def xBy (k : Nat) : List Int32 := (bytJS.getD k [])
def xWL : List Int32 := [1, 0, 0, 0, 50, 75, 1, 0, 1]
/-- of what was there before: an array's type, its length, a place -/
def xTy (e : Nat) : Option Nat := if e = 0 ∨ e = 20 then some 0 else if 11 ≤ e ∧ e < 17 then some 2 else none
def xLn (M : Mm) (e : Nat) : Nat := if e = 0 then 9 else if e = 20 then (M.2.1 (mx + 21) 0).toNatClampNeg else (xBy (e - 11)).length
def xRd (M : Mm) (e j : Nat) : Int32 := if e = 0 then xWL.getD j 0 else if e = 20 then M.2.1 (mx + 20) j else (xBy (e - 11)).getD j 0
/-- an array's type and length by its id -/
def aSh (M : Mm) (a : Nat) : Option (Nat × Nat) := if a < mx then M.1[a]? else (xTy (a - mx)).map (fun t => (t, xLn M (a - mx)))
def aRd (M : Mm) (a j : Nat) : Int32 := if a < mx then M.2.1 a j else xRd M (a - mx) j
def cmpZ (c : ClassFile.Cond) (x : Int32) : Bool := match c with
  | .eq => decide (x = 0)
  | .ne => decide (¬ x = 0)
  | .lt => decide (x < 0)
  | .ge => decide (0 ≤ x)
  | .gt => decide (0 < x)
  | .le => decide (x ≤ 0)
def cmpI (c : ClassFile.Cond) (x y : Int32) : Bool := match c with
  | .eq => decide (x = y)
  | .ne => decide (¬ x = y)
  | .lt => decide (x < y)
  | .ge => decide (y ≤ x)
  | .gt => decide (y < x)
  | .le => decide (x ≤ y)
def swT (d lo hi : Int) (offs : List Int) (x : Int) : Nat := if x < lo ∨ hi < x then d.toNat else (offs.getD (x - lo).toNat d).toNat
def swL (ps : List (Int × Int)) (d x : Int) : Nat := (Op.lookupswitch.offset ps d x).toNat
/-- ONE STEP of what calls nothing: the guard, the next place, locals, stack, memory -/
def st2 (ins : Instr) (i : Nat) (ls : Lz) (st : List Value) (M : Mm) : Option Sz := match ins with
  | .iconst n => some (true, i + 1, ls, .int (Int32.ofInt n) :: st, M)
  | .sipush n => some (true, i + 1, ls, .long (Int64.ofInt n) :: st, M)
  | .ldc k => some (true, i + 1, ls, .ref (mx + 1 + k) :: st, M)
  | .getstatic k => some (true, i + 1, ls, (if k = 0 then .int 1 else if k = 1 then .ref mx else .ref (mx + 30)) :: st, M)
  | .iload k => match lzg ls k with
    | some (.int x) => some (true, i + 1, ls, .int x :: st, M)
    | _ => none
  | .lload k => match lzg ls k with
    | some (.long x) => some (true, i + 1, ls, .long x :: st, M)
    | _ => none
  | .aload k => match lzg ls k with
    | some (.ref x) => some (true, i + 1, ls, .ref x :: st, M)
    | some .null => some (true, i + 1, ls, .null :: st, M)
    | _ => none
  | .istore k => match st with
    | .int x :: st => some (decide (k < ls.length), i + 1, lzp ls k (.int x), st, M)
    | _ => none
  | .astore k => match st with
    | .ref x :: st => some (decide (k < ls.length), i + 1, lzp ls k (.ref x), st, M)
    | .null :: st => some (decide (k < ls.length), i + 1, lzp ls k .null, st, M)
    | _ => none
  | .lstore k => match st with
    | .long x :: st => some (decide (k + 1 < ls.length), i + 1, (lzp ls k (.long x)).set (k + 1) none, st, M)
    | _ => none
  | .iinc k n => match lzg ls k with
    | some (.int x) => some (decide (k < ls.length), i + 1, lzp ls k (.int (x + Int32.ofInt n)), st, M)
    | _ => none
  | .iadd => match st with
    | .int y :: .int x :: st => some (true, i + 1, ls, .int (x + y) :: st, M)
    | _ => none
  | .isub => match st with
    | .int y :: .int x :: st => some (true, i + 1, ls, .int (x - y) :: st, M)
    | _ => none
  | .imul => match st with
    | .int y :: .int x :: st => some (true, i + 1, ls, .int (x * y) :: st, M)
    | _ => none
  | .idiv => match st with
    | .int y :: .int x :: st => some (decide (¬ y = 0), i + 1, ls, .int (x / y) :: st, M)
    | _ => none
  | .irem => match st with
    | .int y :: .int x :: st => some (decide (¬ y = 0), i + 1, ls, .int (x - x / y * y) :: st, M)
    | _ => none
  | .iand => match st with
    | .int y :: .int x :: st => some (true, i + 1, ls, .int (x &&& y) :: st, M)
    | _ => none
  | .ior => match st with
    | .int y :: .int x :: st => some (true, i + 1, ls, .int (x ||| y) :: st, M)
    | _ => none
  | .ixor => match st with
    | .int y :: .int x :: st => some (true, i + 1, ls, .int (x ^^^ y) :: st, M)
    | _ => none
  | .ineg => match st with
    | .int x :: st => some (true, i + 1, ls, .int (-x) :: st, M)
    | _ => none
  | .ishl => match st with
    | .int y :: .int x :: st => some (true, i + 1, ls, .int (x <<< (y &&& 31)) :: st, M)
    | _ => none
  | .ishr => match st with
    | .int y :: .int x :: st => some (true, i + 1, ls, .int (x >>> (y &&& 31)) :: st, M)
    | _ => none
  | .iushr => match st with
    | .int y :: .int x :: st => some (true, i + 1, ls, .int (x.toUInt32 >>> (y.toUInt32 &&& Int32.toUInt32 31)).toInt32 :: st, M)
    | _ => none
  | .i2l => match st with
    | .int x :: st => some (true, i + 1, ls, .long x.toInt64 :: st, M)
    | _ => none
  | .l2i => match st with
    | .long x :: st => some (true, i + 1, ls, .int x.toInt32 :: st, M)
    | _ => none
  | .i2b => match st with
    | .int x :: st => some (true, i + 1, ls, .int x.toInt8.toInt32 :: st, M)
    | _ => none
  | .i2c => match st with
    | .int x :: st => some (true, i + 1, ls, .int (x.toUInt32 % 65536).toInt32 :: st, M)
    | _ => none
  | .ladd => match st with
    | .long y :: .long x :: st => some (true, i + 1, ls, .long (x + y) :: st, M)
    | _ => none
  | .lsub => match st with
    | .long y :: .long x :: st => some (true, i + 1, ls, .long (x - y) :: st, M)
    | _ => none
  | .lmul => match st with
    | .long y :: .long x :: st => some (true, i + 1, ls, .long (x * y) :: st, M)
    | _ => none
  | .ldiv => match st with
    | .long y :: .long x :: st => some (decide (¬ y = 0), i + 1, ls, .long (x / y) :: st, M)
    | _ => none
  | .lrem => match st with
    | .long y :: .long x :: st => some (decide (¬ y = 0), i + 1, ls, .long (x - x / y * y) :: st, M)
    | _ => none
  | .lor => match st with
    | .long y :: .long x :: st => some (true, i + 1, ls, .long (x ||| y) :: st, M)
    | _ => none
  | .lshl => match st with
    | .int y :: .long x :: st => some (true, i + 1, ls, .long (x <<< (y.toInt64 &&& 63)) :: st, M)
    | _ => none
  | .lcmp => match st with
    | .long y :: .long x :: st => some (true, i + 1, ls, .int (lg_cmp x y) :: st, M)
    | _ => none
  | .dup => match st with
    | v :: st => some (decide (v.category = 1), i + 1, ls, v :: v :: st, M)
    | _ => none
  | .dup2 => match st with
    | v :: w :: st => some (decide (v.category = 1) && decide (w.category = 1), i + 1, ls, v :: w :: v :: w :: st, M)
    | _ => none
  | .pop => match st with
    | v :: st => some (decide (v.category = 1), i + 1, ls, st, M)
    | _ => none
  | .ifCond c t => match st with
    | .int x :: st => some (true, if cmpZ c x = true then t.toNat else i + 1, ls, st, M)
    | _ => none
  | .if_icmp c t => match st with
    | .int y :: .int x :: st => some (true, if cmpI c x y = true then t.toNat else i + 1, ls, st, M)
    | _ => none
  | .goto t => some (true, t.toNat, ls, st, M)
  | .ifnull t => match st with
    | .null :: st => some (true, t.toNat, ls, st, M)
    | .ref a :: st => some (decide (a < mx), i + 1, ls, st, M)
    | _ => none
  | .ifnonnull t => match st with
    | .null :: st => some (true, i + 1, ls, st, M)
    | .ref a :: st => some (decide (a < mx), t.toNat, ls, st, M)
    | _ => none
  | .tableswitch d lo hi offs => match st with
    | .int x :: st => some (true, swT d lo hi offs.toList x.toInt, ls, st, M)
    | _ => none
  | .lookupswitch d ps => match st with
    | .int x :: st => some (true, swL ps.toList d x.toInt, ls, st, M)
    | _ => none
  | .getfield n => match st with
    | .ref a :: st => if a < mx then
        match M.1[a]? with
        | some (t, _) => if t = 10 + n / 400 then
            some (true, i + 1, ls, (match n % 4 with
              | 1 => .long (M.2.2.1 a (n / 4 % 100))
              | 2 => mrf (M.2.2.2 a (n / 4 % 100))
              | _ => .int (M.2.1 a (n / 4 % 100))) :: st, M) else none
        | none => none
      else if n / 400 = 13 ∧ mx < a ∧ a ≤ mx + 6 then some (true, i + 1, ls, (if n % 4 = 2 then .ref (a + 10) else .int 0) :: st, M) else none
    | _ => none
  | .putfield n => match st with
    | v :: .ref a :: st => match M.1[a]? with
      | some (t, _) => if t = 10 + n / 400 ∧ a < mx then
          (match n % 4, v with
            | 0, .int x => some (true, i + 1, ls, st, wI M a (n / 4 % 100) x)
            | 3, .int x => some (decide (x = 0) || decide (x = 1), i + 1, ls, st, wI M a (n / 4 % 100) x)
            | 1, .long x => some (true, i + 1, ls, st, wL M a (n / 4 % 100) x)
            | 2, .ref x => some (true, i + 1, ls, st, wR M a (n / 4 % 100) (some x))
            | _, _ => none) else none
      | none => none
    | _ => none
  | .iaload => match st with
    | .int j :: .ref a :: st => match aSh M a with
      | some (0, n) => some (inb j n, i + 1, ls, .int (aRd M a j.toNatClampNeg) :: st, M)
      | _ => none
    | _ => none
  | .baload => match st with
    | .int j :: .ref a :: st => match aSh M a with
      | some (1, n) => some (inb j n, i + 1, ls, .int (aRd M a j.toNatClampNeg) :: st, M)
      | some (2, n) => some (inb j n, i + 1, ls, .int (aRd M a j.toNatClampNeg) :: st, M)
      | _ => none
    | _ => none
  | .laload => match st with
    | .int j :: .ref a :: st => match M.1[a]? with
      | some (3, n) => some (inb j n, i + 1, ls, .long (M.2.2.1 a j.toNatClampNeg) :: st, M)
      | _ => none
    | _ => none
  | .aaload => match st with
    | .int j :: .ref a :: st => match M.1[a]? with
      | some (4, n) => some (inb j n && rok (M.2.2.2 a j.toNatClampNeg), i + 1, ls, mrf (M.2.2.2 a j.toNatClampNeg) :: st, M)
      | some (5, n) => some (inb j n && rok (M.2.2.2 a j.toNatClampNeg), i + 1, ls, mrf (M.2.2.2 a j.toNatClampNeg) :: st, M)
      | _ => none
    | _ => none
  | .iastore => match st with
    | .int x :: .int j :: .ref a :: st => match M.1[a]? with
      | some (0, n) => some (inb j n, i + 1, ls, st, wI M a j.toNatClampNeg x)
      | _ => none
    | _ => none
  | .bastore => match st with
    | .int x :: .int j :: .ref a :: st => match M.1[a]? with
      | some (1, n) => some (inb j n, i + 1, ls, st, wI M a j.toNatClampNeg (vp_nar .boolean x))
      | some (2, n) => some (inb j n, i + 1, ls, st, wI M a j.toNatClampNeg (vp_nar .byte x))
      | _ => none
    | _ => none
  | .lastore => match st with
    | .long x :: .int j :: .ref a :: st => match M.1[a]? with
      | some (3, n) => some (inb j n, i + 1, ls, st, wL M a j.toNatClampNeg x)
      | _ => none
    | _ => none
  | .aastore => match st with
    | .ref x :: .int j :: .ref a :: st => match M.1[a]?, M.1[x]? with
      | some (4, n), some (13, _) => some (inb j n, i + 1, ls, st, wR M a j.toNatClampNeg (some x))
      | some (5, n), some (10, _) => some (inb j n, i + 1, ls, st, wR M a j.toNatClampNeg (some x))
      | _, _ => none
    | .null :: .int j :: .ref a :: st => match M.1[a]? with
      | some (4, n) => some (inb j n, i + 1, ls, st, wR M a j.toNatClampNeg none)
      | some (5, n) => some (inb j n, i + 1, ls, st, wR M a j.toNatClampNeg none)
      | _ => none
    | _ => none
  | .arraylength => match st with
    | .ref a :: st => match aSh M a with
      | some (t, n) => if t < 6 then some (true, i + 1, ls, .int (Int32.ofNat n) :: st, M) else none
      | none => none
    | _ => none
  | .newarray t => match st with
    | .int j :: st => match t with
      | .int => some (decide (¬ j < 0) && decide (j.toNatClampNeg < 10000) && decide (M.1.length < mx), i + 1, ls, .ref M.1.length :: st, mNew M 0 j.toNatClampNeg)
      | .boolean => some (decide (¬ j < 0) && decide (j.toNatClampNeg < 10000) && decide (M.1.length < mx), i + 1, ls, .ref M.1.length :: st, mNew M 1 j.toNatClampNeg)
      | .byte => some (decide (¬ j < 0) && decide (j.toNatClampNeg < 10000) && decide (M.1.length < mx), i + 1, ls, .ref M.1.length :: st, mNew M 2 j.toNatClampNeg)
      | .long => some (decide (¬ j < 0) && decide (j.toNatClampNeg < 10000) && decide (M.1.length < mx), i + 1, ls, .ref M.1.length :: st, mNew M 3 j.toNatClampNeg)
      | _ => none
    | _ => none
  | .anewarray t => match st with
    | .int j :: st => if t = 4 ∨ t = 5 then some (decide (¬ j < 0) && decide (j.toNatClampNeg < 10000) && decide (M.1.length < mx), i + 1, ls, .ref M.1.length :: st, mNew M t j.toNatClampNeg) else none
    | _ => none
  | .new n => if n / 100 < 13 then some (decide (M.1.length < mx), i + 1, ls, .ref M.1.length :: st, mNew M (10 + n / 100) (n % 100)) else none
  | .invokedynamic k => match k, st with
    | 0, .ref a :: st => some (decide (a < mx) && decide ((st.map fun v => v.category).sum ≤ 8), i + 1, ls, st, M)
    | 1, .int n :: .int dp :: .ref a :: .int sp :: .ref b :: st => match M.1[a]?, M.1[b]? with
      | some (0, n1), some (0, n0) => some (decide (¬ sp < 0) && decide (¬ dp < 0) && decide (¬ n < 0) && decide (sp.toNatClampNeg + n.toNatClampNeg ≤ n0) && decide (dp.toNatClampNeg + n.toNatClampNeg ≤ n1) && decide ((st.map fun v => v.category).sum ≤ 8), i + 1, ls, st, wA M a (va_cpy (M.2.1 b) (M.2.1 a) sp.toNatClampNeg dp.toNatClampNeg n.toNatClampNeg))
      | _, _ => none
    | 2, .int n :: .int dp :: .ref a :: .int sp :: .ref b :: st => match M.1[a]?, M.1[b]? with
      | some (2, n1), some (2, n0) => some ((List.range n.toNatClampNeg).all (fun i => fits .byte (.int (M.2.1 b (sp.toNatClampNeg + i)))) && decide (¬ sp < 0) && decide (¬ dp < 0) && decide (¬ n < 0) && decide (sp.toNatClampNeg + n.toNatClampNeg ≤ n0) && decide (dp.toNatClampNeg + n.toNatClampNeg ≤ n1) && decide ((st.map fun v => v.category).sum ≤ 8), i + 1, ls, st, wA M a (va_cpy (M.2.1 b) (M.2.1 a) sp.toNatClampNeg dp.toNatClampNeg n.toNatClampNeg))
      | _, _ => none
    | 3, .int y :: .int x :: st => some (decide ((st.map fun v => v.category).sum ≤ 8), i + 1, ls, .int (if x < y then y else x) :: st, M)
    | 4, .int y :: .int x :: st => some (decide ((st.map fun v => v.category).sum ≤ 8), i + 1, ls, .int (if y < x then y else x) :: st, M)
    | 5, .long y :: .long x :: st => some (decide ((st.map fun v => v.category).sum ≤ 8), i + 1, ls, .long (if y < x then x else y) :: st, M)
    | 6, .long y :: .long x :: st => some (decide ((st.map fun v => v.category).sum ≤ 8), i + 1, ls, .long (if y < x then y else x) :: st, M)
    | _, _ => none
  | _ => none
/-- an instruction's row: pc, instruction, variant, number or offset, place of its word -/
abbrev Ie : Type := Nat × Instr × Nat × Int × Nat
/-- a method: name, bytes, locals, answer's type, how many arguments, frames and words that it needs, places of its words (code, kind, selects, initialized), rows -/
abbrev Mi : Type := MethodName × ByteArray × Nat × Option FieldType × Nat × Nat × Nat × List Nat × List Ie
