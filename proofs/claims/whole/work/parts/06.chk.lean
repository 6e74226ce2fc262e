/-! the real instruction behind a row, its length, and what a row must meet -/
def pcz (rows : List Ie) : List Nat := rows.map (fun r => r.1)
def tgO (pcs : List Nat) (pc : Nat) (t : Int) : Int := ((pcs.getD t.toNat 0 : Nat) : Int) - pc
def rlI (pcs : List Nat) (pc : Nat) (res : Instr) (v : Nat) (x : Int) : Instr := match res with
  | .iconst n => (match v with
    | 0 => .iconst n
    | 1 => .bipush n
    | 2 => .sipush n
    | 3 => .ldc x.toNat
    | _ => .ldc_w x.toNat)
  | .sipush _ => (match v with
    | 0 => .lconst 0
    | 1 => .lconst 1
    | _ => .ldc2_w x.toNat)
  | .ldc _ => .ldc x.toNat
  | .getstatic _ => .getstatic x.toNat
  | .iload k => (match v with
    | 0 => .iload k
    | 1 => .iload_n 0
    | 2 => .iload_n 1
    | 3 => .iload_n 2
    | _ => .iload_n 3)
  | .lload k => (match v with
    | 0 => .lload k
    | 1 => .lload_n 0
    | 2 => .lload_n 1
    | 3 => .lload_n 2
    | _ => .lload_n 3)
  | .aload k => (match v with
    | 0 => .aload k
    | 1 => .aload_n 0
    | 2 => .aload_n 1
    | 3 => .aload_n 2
    | _ => .aload_n 3)
  | .istore k => (match v with
    | 0 => .istore k
    | 1 => .istore_n 0
    | 2 => .istore_n 1
    | 3 => .istore_n 2
    | _ => .istore_n 3)
  | .lstore k => (match v with
    | 0 => .lstore k
    | 1 => .lstore_n 0
    | 2 => .lstore_n 1
    | 3 => .lstore_n 2
    | _ => .lstore_n 3)
  | .astore k => (match v with
    | 0 => .astore k
    | 1 => .astore_n 0
    | 2 => .astore_n 1
    | 3 => .astore_n 2
    | _ => .astore_n 3)
  | .ifCond c _ => .ifCond c x
  | .if_icmp c _ => .if_icmp c x
  | .goto _ => .goto x
  | .ifnull _ => .ifnull x
  | .ifnonnull _ => .ifnonnull x
  | .tableswitch d lo hi offs => .tableswitch (tgO pcs pc d) lo hi (offs.map (tgO pcs pc))
  | .lookupswitch d ps => .lookupswitch (tgO pcs pc d) (ps.map (fun q => (q.1, tgO pcs pc q.2)))
  | .getfield _ => .getfield x.toNat
  | .putfield _ => .putfield x.toNat
  | .anewarray _ => .anewarray x.toNat
  | .new _ => .new x.toNat
  | .invokevirtual _ => .invokevirtual x.toNat
  | .invokestatic _ => .invokestatic x.toNat
  | .invokespecial _ => .invokespecial x.toNat
  | .invokedynamic k => if k = 0 then .invokespecial x.toNat else .invokestatic x.toNat
  | r => r
def lnI (res : Instr) (v : Nat) (x : Int) : Nat := match res with
  | .iconst _ => (match v with
    | 0 => 1
    | 1 => 2
    | 2 => 3
    | 3 => 2
    | _ => 3)
  | .sipush _ => if v < 2 then 1 else 3
  | .ldc _ => 2
  | .iload _ | .lload _ | .aload _ | .istore _ | .lstore _ | .astore _ => if v = 0 then 2 else 1
  | .iinc _ _ | .ifCond _ _ | .if_icmp _ _ | .goto _ | .ifnull _ | .ifnonnull _ | .getfield _ | .putfield _ | .getstatic _ | .anewarray _ | .new _ | .invokevirtual _ | .invokestatic _ | .invokespecial _ | .invokedynamic _ => 3
  | .newarray _ => 2
  | .tableswitch .. | .lookupswitch .. => x.toNat
  | _ => 1
/-- the word at a place is this one -/
def wAt (w : Nat) (c : Cond) : Bool := decide (lw_tbl[w]? = some c)
def tgK (pcs : List Nat) (pc : Nat) (t x : Int) : Bool := match pcs[t.toNat]? with
  | some q => decide ((pc : Int) + x = (q : Int))
  | none => false
def tgE (pcs : List Nat) (t : Int) : Bool := decide (t.toNat < pcs.length)
def fLk (own : String) (n v : Nat) (x : Int) (w : Nat) : Bool := match clz[n / 400]? with
  | some (_, T, N) => decide (n / 4 % 100 < N) && (if v = 1 then wAt w (.fieldLinkNest own x.toNat (T (n / 4 % 100)).1 (T (n / 4 % 100)).2.1 (T (n / 4 % 100)).2.2.1 "DebtorsHouse") else wAt w (.fieldLink own x.toNat (T (n / 4 % 100)).1 (T (n / 4 % 100)).2.1 (T (n / 4 % 100)).2.2.1))
  | none => decide (n / 400 = 13) && decide (v = 0) && decide (own = "java/lang/String") && (if n % 4 = 2 then wAt w (.fieldLink own x.toNat "java/lang/String" "value" "[B") else wAt w (.fieldLink own x.toNat "java/lang/String" "coder" "B"))
def fFn (own : String) (n v : Nat) (inInit : Bool) : Bool := match clz[n / 400]?, kdz[n / 400]? with
  | some (_, T, _), some kd => decide (kd[n / 4 % 100]? = some (n % 4)) && (if v = 2 then (T (n / 4 % 100)).2.2.2 && decide ((T (n / 4 % 100)).1 = own) && inInit else !(T (n / 4 % 100)).2.2.2)
  | _, _ => false
def fKd (n : Nat) : Bool := match kdz[n / 400]? with
  | some kd => decide (kd[n / 4 % 100]? = some (n % 4))
  | none => decide (n / 400 = 13)
def cLk (own : String) (k v : Nat) (x : Int) (w f l : Nat) (kind : Nat) : Bool := match mt[k]? with
  | some (y, bytes, maxL, ret, na, f', l', [w1, w2, w3, w4], _) => decide (f' + 1 ≤ f) && decide (8 + (maxL + 11) + l' ≤ l) && wAt w1 (.code y bytes maxL ret) && wAt w4 (.initialized y.cls) && decide (y.cls ≠ "java/lang/invoke/MethodHandle") && decide (y.cls ≠ "java/lang/invoke/VarHandle") && decide ((parseMethodDescriptor y.desc).map (fun d => d.parameters.length) = some (if kind = 0 then na else na - 1)) && decide (kind = 0 ∨ 0 < na) &&
      (if v = 1 then wAt w (.methodLinkNest own x.toNat y "DebtorsHouse") else wAt w (.methodLink own x.toNat y)) &&
      (match kind with
        | 0 => wAt w2 (.static y)
        | 1 => wAt w2 (.instanceMethod y) && wAt w3 (.selects y.cls y y)
        | _ => wAt w2 (.instanceMethod y) && decide (y.name = "<init>") && decide (ret = none)) && plainName y.cls
  | _ => false
def idW (own : String) (x : Int) (w k : Nat) : Bool := match k with
    | 0 => wAt w (.methodLink own x.toNat objectInit)
    | 1 => wAt w (.methodLink own x.toNat arraycopyName)
    | 2 => wAt w (.methodLink own x.toNat arraycopyName)
    | 3 => wAt w (.methodLink own x.toNat Lib.Math.max.name)
    | 4 => wAt w (.methodLink own x.toNat Lib.Math.min.name)
    | 5 => wAt w (.methodLink own x.toNat Lib.MathLoose.max_long.x)
    | 6 => wAt w (.methodLink own x.toNat Lib.MathLoose.min_long.x)
    | _ => false
def wdI (own : String) (inInit : Bool) (f l : Nat) (pcs : List Nat) (pc : Nat) (res : Instr) (v : Nat) (x : Int) (w : Nat) : Bool := match res with
  | .iconst n => (match v with
    | 0 => true
    | 1 => decide ((Int8.ofInt n).toInt32 = Int32.ofInt n)
    | 2 => decide ((Int16.ofInt n).toInt32 = Int32.ofInt n)
    | _ => wAt w (.constant own x.toNat (Int32.ofInt n)))
  | .sipush n => (match v with
    | 0 => decide (Int64.ofInt n = 0)
    | 1 => decide (Int64.ofInt n = 1)
    | _ => wAt w (.constantLong own x.toNat (Int64.ofInt n)))
  | .ldc k => match strJS[k]? with
    | some q => decide (x.toNat = q.1) && decide (own = "DebtorsHouse$Reader")
    | none => false
  | .getstatic k => (match k with
    | 0 => wAt w (.fieldLink own x.toNat "java/lang/String" "COMPACT_STRINGS" "Z")
    | 1 => wAt w (.fieldLink own x.toNat "DebtorsHouse$Law" "WITHOUT_LINE" "[I")
    | _ => decide (k = 2) && wAt w (.fieldLink own x.toNat "jdk/internal/util/Preconditions" "SIOOBE_FORMATTER" "Ljava/util/function/BiFunction;"))
  | .iload k | .lload k | .aload k | .istore k | .lstore k | .astore k => decide (v < 5) && (decide (v = 0) || decide (k + 1 = v))
  | .ifCond _ t | .if_icmp _ t | .goto t | .ifnull t | .ifnonnull t => tgK pcs pc t x
  | .tableswitch d lo hi offs => tgE pcs d && offs.toList.all (tgE pcs) && decide (hi - lo < offs.size)
  | .lookupswitch d ps => tgE pcs d && ps.toList.all (fun q => tgE pcs q.2) && (ps.toList.zip (ps.toList.drop 1)).all (fun (a, next) => a.1 < next.1)
  | .getfield n => fLk own n v x w && fKd n
  | .putfield n => fLk own n v x w && fFn own n v inInit
  | .anewarray t => if t = 4 then wAt w (.classLink own x.toNat "DebtorsHouse$House") else wAt w (.classLink own x.toNat "DebtorsHouse$Act")
  | .new n => match clz[n / 100]? with
    | some (C, _, N) => decide (n % 100 = N) && wAt w (.classLink own x.toNat C)
    | none => false
  | .invokestatic k => cLk own k v x w f l 0
  | .invokevirtual k => cLk own k v x w f l 1
  | .invokespecial k => cLk own k v x w f l 2
  | .invokedynamic k => decide (1 ≤ f) && decide (80 ≤ l) && idW own x w k
  | _ => true
/-- a row: it is what the bytes say, its words stand, the row behind it is the next -/
def okR (own : String) (inInit : Bool) (cc : ByteArray) (f l : Nat) (pcs : List Nat) (i : Nat) (r : Ie) : Bool :=
  (match r.2.1 with
    | .nop => true
    | _ => decide (decode cc r.1 = .ok (rlI pcs r.1 r.2.1 r.2.2.1 r.2.2.2.1, lnI r.2.1 r.2.2.1 r.2.2.2.1)) && wdI own inInit f l pcs r.1 r.2.1 r.2.2.1 r.2.2.2.1 r.2.2.2.2) &&
  (match pcs[i + 1]? with
    | some q => decide (q = r.1 + lnI r.2.1 r.2.2.1 r.2.2.2.1) || (match r.2.1 with
      | .nop => true
      | _ => false)
    | none => (match r.2.1 with
      | .ireturn | .lreturn | .return_ | .goto _ | .nop => true
      | _ => false))
def okM (q : Mi) : Bool := q.2.2.2.2.2.2.2.2.zipIdx.all (fun r => okR q.1.cls (q.1.name == "<init>") q.2.1 q.2.2.2.2.2.1 q.2.2.2.2.2.2.1 (pcz q.2.2.2.2.2.2.2.2) r.2 r.1) && decide ((pcz q.2.2.2.2.2.2.2.2)[0]? = some 0)
