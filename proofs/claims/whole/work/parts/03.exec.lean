/-! the walked system as a function: one step of the bytecode over (locals, stack, memory), and the run of a method -/
/-- an instruction with its length, and three numbers that a program worked out of the constant pool: what it means, and the place of its word in lw_tbl -/
abbrev xE : Type := Instr × Nat × Nat × Nat × Nat
abbrev xSt : Type := Nat × List (Option xVal) × List xVal × xMem
def xup {α : Type} (f : xId → Nat → α) (a : xId) (k : Nat) (v : α) : xId → Nat → α := fun b => if b = a then va_up (f a) k v else f b
def xrw {α : Type} (f : xId → Nat → α) (a : xId) (g : Nat → α) : xId → Nat → α := fun b => if b = a then g else f b
abbrev xmi (M : xMem) : xId → Nat → Int32 := M.1
abbrev xml (M : xMem) : xId → Nat → Int64 := M.2.1
abbrev xmr (M : xMem) : xId → Nat → Option xId := M.2.2.1
abbrev xmn (M : xMem) : Nat := M.2.2.2.1
abbrev xmz (M : xMem) : Nat := M.2.2.2.2
def xsi (M : xMem) (a : xId) (k : Nat) (v : Int32) : xMem := (xup M.1 a k v, M.2.1, M.2.2.1, M.2.2.2.1, M.2.2.2.2)
def xsl (M : xMem) (a : xId) (k : Nat) (v : Int64) : xMem := (M.1, xup M.2.1 a k v, M.2.2.1, M.2.2.2.1, M.2.2.2.2)
def xsr (M : xMem) (a : xId) (k : Nat) (v : Option xId) : xMem := (M.1, M.2.1, xup M.2.2.1 a k v, M.2.2.2.1, M.2.2.2.2)
def xsri (M : xMem) (a : xId) (g : Nat → Int32) : xMem := (xrw M.1 a g, M.2.1, M.2.2.1, M.2.2.2.1, M.2.2.2.2)
def xsrl (M : xMem) (a : xId) (g : Nat → Int64) : xMem := (M.1, xrw M.2.1 a g, M.2.2.1, M.2.2.2.1, M.2.2.2.2)
/-- a new cell -/
def xnw (M : xMem) (a : xId) (n : Nat) : xMem := (xrw M.1 a (fun _ => 0), xrw M.2.1 a (fun _ => 0), xrw M.2.2.1 a (fun _ => none), M.2.2.2.1 + 1, M.2.2.2.2 + n)
/-- a cell of type t, made already: how long it is -/
def xis (M : xMem) (a : xId) (t : Nat) : Option Nat := match xsh a with
  | none => none
  | some q => if q.1 = t ∧ xnum a < M.2.2.2.1 then some q.2 else none
def xob (M : xMem) (r : Option xId) (t : Nat) : Option xId := match r with
  | none => none
  | some a => match xis M a t with
    | none => none
    | some _ => some a
/-- an index within -/
abbrev xinR (i : Int32) (n : Nat) : Prop := ¬ (i < 0 ∨ n ≤ i.toNatClampNeg)
def xar (M : xMem) (r : Option xId) (t : Nat) (i : Int32) : Option xId := match r with
  | none => none
  | some a => match xis M a t with
    | none => none
    | some n => if xinR i n then some a else none
/-- fields -/
def xgf (M : xMem) (r : Option xId) (c k : Nat) : Option xVal := match xob M r c with
  | none => none
  | some a => match xft c k with
    | 1 => some (.inr (.inl (M.2.1 a k)))
    | 2 => some (.inr (.inr (M.2.2.1 a k)))
    | _ => some (.inl (M.1 a k))
def xpf (M : xMem) (r : Option xId) (c k : Nat) (v : xVal) : Option xMem := match xob M r c with
  | none => none
  | some a => match xft c k, v with
    | 0, .inl x => some (xsi M a k x)
    | 1, .inr (.inl x) => some (xsl M a k x)
    | 2, .inr (.inr x) => some (xsr M a k x)
    | 3, .inl x => if x = 0 ∨ x = 1 then some (xsi M a k x) else none
    | _, _ => none
/-- locals -/
def xld (ls : List (Option xVal)) (i : Nat) : Option xVal := match ls[i]? with
  | some o => o
  | none => none
def xis2 : xVal → Bool
  | .inr (.inl _) => true
  | _ => false
def xnoL (ls : List (Option xVal)) (i : Nat) : Bool := match i with
  | 0 => true
  | j + 1 => match ls[j]? with
    | some (some v) => !(xis2 v)
    | _ => true
def xst1 (ls : List (Option xVal)) (i : Nat) (v : xVal) : Option (List (Option xVal)) := if i < ls.length ∧ xnoL ls i = true then some (ls.set i (some v)) else none
def xst2 (ls : List (Option xVal)) (i : Nat) (v : xVal) : Option (List (Option xVal)) := if i + 1 < ls.length ∧ xnoL ls i = true then some ((ls.set i (some v)).set (i + 1) none) else none
def xcat (v : xVal) : Nat := if xis2 v then 2 else 1
def xcnd (c : Jvm.ClassFile.Cond) (x y : Int32) : Bool := match c with
  | .eq => decide (x = y)
  | .ne => !decide (x = y)
  | .lt => decide (x < y)
  | .ge => decide (y ≤ x)
  | .gt => decide (y < x)
  | .le => decide (x ≤ y)
/-- two ints to one -/
def xII : Instr → Option (Int32 → Int32 → Int32)
  | .iadd => some (fun x y => x + y)
  | .isub => some (fun x y => x - y)
  | .imul => some (fun x y => x * y)
  | .iand => some (fun x y => x &&& y)
  | .ior => some (fun x y => x ||| y)
  | .ixor => some (fun x y => x ^^^ y)
  | .ishl => some (fun x y => x <<< (y &&& 31))
  | .iushr => some (fun x y => (x.toUInt32 >>> (y.toUInt32 &&& Int32.toUInt32 31)).toInt32)
  | _ => none
/-- two longs to one -/
def xLL : Instr → Option (Int64 → Int64 → Int64)
  | .ladd => some (fun x y => x + y)
  | .lsub => some (fun x y => x - y)
  | .lmul => some (fun x y => x * y)
  | .land => some (fun x y => x &&& y)
  | .lor => some (fun x y => x ||| y)
  | .lxor => some (fun x y => x ^^^ y)
  | _ => none
/-- new int[4][40]: the one of the system -/
def xmu (M : xMem) : xMem := (xrw (xrw (xrw (xrw (xrw M.1 (41, 0, 0) (fun _ => 0)) (42, 0, 0) (fun _ => 0)) (42, 0, 1) (fun _ => 0)) (42, 0, 2) (fun _ => 0)) (42, 0, 3) (fun _ => 0), M.2.1, xrw M.2.2.1 (41, 0, 0) (fun j => if j < 4 then some (42, 0, j) else none), M.2.2.2.1 + 5, M.2.2.2.2 + 164)
/-- a step that is neither a call nor an end. top: the script of the law, its length and its ints -/
def xstep (top : Option (Nat × (Nat → Int32))) (en : xE) (pc : Nat) (ls : List (Option xVal)) (st : List xVal) (M : xMem) : Option xSt :=
  match en.1 with
  | .iconst n => some (pc + 1, ls, .inl (Int32.ofInt n) :: st, M)
  | .bipush n => some (pc + 2, ls, .inl (Int8.ofInt n).toInt32 :: st, M)
  | .sipush n => some (pc + 3, ls, .inl (Int16.ofInt n).toInt32 :: st, M)
  | .lconst n => some (pc + 1, ls, .inr (.inl (Int64.ofNat (n : Nat))) :: st, M)
  | .ldc _ => some (pc + 2, ls, .inl (Int32.ofNat en.2.2.1) :: st, M)
  | .ldc_w _ => some (pc + 3, ls, .inl (Int32.ofNat en.2.2.1) :: st, M)
  | .ldc2_w _ => some (pc + 3, ls, .inr (.inl (Int64.ofNat en.2.2.1)) :: st, M)
  | .aconst_null => some (pc + 1, ls, .inr (.inr none) :: st, M)
  | .iload_n k => match xld ls k with
    | some (.inl x) => some (pc + 1, ls, .inl x :: st, M)
    | _ => none
  | .iload k => match xld ls k with
    | some (.inl x) => some (pc + 2, ls, .inl x :: st, M)
    | _ => none
  | .lload_n k => match xld ls k with
    | some (.inr (.inl x)) => some (pc + 1, ls, .inr (.inl x) :: st, M)
    | _ => none
  | .lload k => match xld ls k with
    | some (.inr (.inl x)) => some (pc + 2, ls, .inr (.inl x) :: st, M)
    | _ => none
  | .aload_n k => match xld ls k with
    | some (.inr (.inr x)) => some (pc + 1, ls, .inr (.inr x) :: st, M)
    | _ => none
  | .aload k => match xld ls k with
    | some (.inr (.inr x)) => some (pc + 2, ls, .inr (.inr x) :: st, M)
    | _ => none
  | .istore_n k => match st with
    | .inl x :: r => (xst1 ls k (.inl x)).bind fun ls' => some (pc + 1, ls', r, M)
    | _ => none
  | .istore k => match st with
    | .inl x :: r => (xst1 ls k (.inl x)).bind fun ls' => some (pc + 2, ls', r, M)
    | _ => none
  | .lstore_n k => match st with
    | .inr (.inl x) :: r => (xst2 ls k (.inr (.inl x))).bind fun ls' => some (pc + 1, ls', r, M)
    | _ => none
  | .lstore k => match st with
    | .inr (.inl x) :: r => (xst2 ls k (.inr (.inl x))).bind fun ls' => some (pc + 2, ls', r, M)
    | _ => none
  | .astore_n k => match st with
    | .inr (.inr x) :: r => (xst1 ls k (.inr (.inr x))).bind fun ls' => some (pc + 1, ls', r, M)
    | _ => none
  | .astore k => match st with
    | .inr (.inr x) :: r => (xst1 ls k (.inr (.inr x))).bind fun ls' => some (pc + 2, ls', r, M)
    | _ => none
  | .iinc k n => match xld ls k with
    | some (.inl x) => (xst1 ls k (.inl (x + Int32.ofInt n))).bind fun ls' => some (pc + 3, ls', st, M)
    | _ => none
  | .idiv => match st with
    | .inl y :: .inl x :: r => if y = 0 then none else some (pc + 1, ls, .inl (x / y) :: r, M)
    | _ => none
  | .irem => match st with
    | .inl y :: .inl x :: r => if y = 0 then none else some (pc + 1, ls, .inl (x - x / y * y) :: r, M)
    | _ => none
  | .lneg => match st with
    | .inr (.inl x) :: r => some (pc + 1, ls, .inr (.inl (-x)) :: r, M)
    | _ => none
  | .lshl => match st with
    | .inl y :: .inr (.inl x) :: r => some (pc + 1, ls, .inr (.inl (x <<< (y.toInt64 &&& 63))) :: r, M)
    | _ => none
  | .lushr => match st with
    | .inl y :: .inr (.inl x) :: r => some (pc + 1, ls, .inr (.inl ((x.toUInt64 >>> (y.toInt64.toUInt64 &&& Int64.toUInt64 63)).toInt64)) :: r, M)
    | _ => none
  | .i2l => match st with
    | .inl x :: r => some (pc + 1, ls, .inr (.inl x.toInt64) :: r, M)
    | _ => none
  | .l2i => match st with
    | .inr (.inl x) :: r => some (pc + 1, ls, .inl x.toInt32 :: r, M)
    | _ => none
  | .lcmp => match st with
    | .inr (.inl y) :: .inr (.inl x) :: r => some (pc + 1, ls, .inl (lg_cmp x y) :: r, M)
    | _ => none
  | .pop => match st with
    | v :: r => if xis2 v then none else some (pc + 1, ls, r, M)
    | _ => none
  | .dup => match st with
    | v :: r => if xis2 v then none else some (pc + 1, ls, v :: v :: r, M)
    | _ => none
  | .dup2 => match st with
    | v :: w :: r => if xis2 v ∨ xis2 w then none else some (pc + 1, ls, v :: w :: v :: w :: r, M)
    | _ => none
  | .ifCond c _ => match st with
    | .inl x :: r => if xcnd c x 0 then some (en.2.2.1, ls, r, M) else some (pc + 3, ls, r, M)
    | _ => none
  | .if_icmp c _ => match st with
    | .inl y :: .inl x :: r => if xcnd c x y then some (en.2.2.1, ls, r, M) else some (pc + 3, ls, r, M)
    | _ => none
  | .goto _ => some (en.2.2.1, ls, st, M)
  | .ifnull _ => match st with
    | .inr (.inr none) :: r => some (en.2.2.1, ls, r, M)
    | .inr (.inr (some _)) :: r => some (pc + 3, ls, r, M)
    | _ => none
  | .ifnonnull _ => match st with
    | .inr (.inr none) :: r => some (pc + 3, ls, r, M)
    | .inr (.inr (some _)) :: r => some (en.2.2.1, ls, r, M)
    | _ => none
  | .tableswitch d lo hi offs => match st with
    | .inl x :: r => if x.toInt < lo ∨ hi < x.toInt then some (((pc : Int) + d).toNat, ls, r, M) else match offs[(x.toInt - lo).toNat]? with
      | some o => some (((pc : Int) + o).toNat, ls, r, M)
      | none => none
    | _ => none
  | .lookupswitch d ps => match st with
    | .inl x :: r => some (((pc : Int) + Op.lookupswitch.offset ps.toList d x.toInt).toNat, ls, r, M)
    | _ => none
  | .getfield _ => match st with
    | .inr (.inr a) :: r => (xgf M a en.2.2.1 en.2.2.2.1).bind fun v => some (pc + 3, ls, v :: r, M)
    | _ => none
  | .putfield _ => match st with
    | v :: .inr (.inr a) :: r => (xpf M a en.2.2.1 en.2.2.2.1 v).bind fun M' => some (pc + 3, ls, r, M')
    | _ => none
  | .iaload => match st with
    | .inl i :: .inr (.inr (some a)) :: r => if a.1 = 99 then (match top with
        | some t => if xinR i t.1 ∧ a = (99, 0, 0) then some (pc + 1, ls, .inl (t.2 i.toNatClampNeg) :: r, M) else none
        | none => none)
      else (xar M (some a) 20 i).bind fun a => some (pc + 1, ls, .inl (M.1 a i.toNatClampNeg) :: r, M)
    | _ => none
  | .baload => match st with
    | .inl i :: .inr (.inr a) :: r => (xar M a 22 i).bind fun a => some (pc + 1, ls, .inl (M.1 a i.toNatClampNeg) :: r, M)
    | _ => none
  | .laload => match st with
    | .inl i :: .inr (.inr a) :: r => (xar M a 21 i).bind fun a => some (pc + 1, ls, .inr (.inl (M.2.1 a i.toNatClampNeg)) :: r, M)
    | _ => none
  | .aaload => match st with
    | .inl i :: .inr (.inr a) :: r => (xar M a en.2.2.1 i).bind fun a => some (pc + 1, ls, .inr (.inr (M.2.2.1 a i.toNatClampNeg)) :: r, M)
    | _ => none
  | .iastore => match st with
    | .inl x :: .inl i :: .inr (.inr a) :: r => (xar M a 20 i).bind fun a => some (pc + 1, ls, r, xsi M a i.toNatClampNeg x)
    | _ => none
  | .bastore => match st with
    | .inl x :: .inl i :: .inr (.inr a) :: r => (xar M a 22 i).bind fun a => some (pc + 1, ls, r, xsi M a i.toNatClampNeg (vp_nar .boolean x))
    | _ => none
  | .lastore => match st with
    | .inr (.inl x) :: .inl i :: .inr (.inr a) :: r => (xar M a 21 i).bind fun a => some (pc + 1, ls, r, xsl M a i.toNatClampNeg x)
    | _ => none
  | .aastore => match st with
    | .inr (.inr (some v)) :: .inl i :: .inr (.inr a) :: r => (xar M a en.2.2.1 i).bind fun a => (xob M (some v) en.2.2.2.1).bind fun v => some (pc + 1, ls, r, xsr M a i.toNatClampNeg (some v))
    | _ => none
  | .arraylength => match st with
    | .inr (.inr (some a)) :: r => if a.1 = 99 then (match top with
        | some t => if a = (99, 0, 0) then some (pc + 1, ls, .inl (Int32.ofNat t.1) :: r, M) else none
        | none => none)
      else (match xsh a with
        | some q => if 20 ≤ q.1 ∧ q.1 ≤ 22 ∧ xnum a < M.2.2.2.1 then some (pc + 1, ls, .inl (Int32.ofNat q.2) :: r, M) else none
        | none => none)
    | _ => none
  | .new _ => if xsh (xid M.2.2.2.1) = some (en.2.2.1, en.2.2.2.1) ∧ M.2.2.2.1 < xT then some (pc + 3, ls, .inr (.inr (some (xid M.2.2.2.1))) :: st, xnw M (xid M.2.2.2.1) en.2.2.2.1) else none
  | .newarray _ => match st with
    | .inl n :: r => if ¬ n < 0 ∧ xsh (xid M.2.2.2.1) = some (en.2.2.1, n.toNatClampNeg) ∧ M.2.2.2.1 < xT then some (pc + 2, ls, .inr (.inr (some (xid M.2.2.2.1))) :: r, xnw M (xid M.2.2.2.1) n.toNatClampNeg) else none
    | _ => none
  | .anewarray _ => match st with
    | .inl n :: r => if ¬ n < 0 ∧ xsh (xid M.2.2.2.1) = some (en.2.2.1, n.toNatClampNeg) ∧ M.2.2.2.1 < xT then some (pc + 3, ls, .inr (.inr (some (xid M.2.2.2.1))) :: r, xnw M (xid M.2.2.2.1) n.toNatClampNeg) else none
    | _ => none
  | .multianewarray _ _ => match st with
    | .inl k :: .inl n :: r => if k = 40 ∧ n = 4 ∧ M.2.2.2.1 = 296 then some (pc + 4, ls, .inr (.inr (some (41, 0, 0))) :: r, xmu M) else none
    | _ => none
  | ins => match xII ins with
    | some f => (match st with
      | .inl y :: .inl x :: r => some (pc + 1, ls, .inl (f x y) :: r, M)
      | _ => none)
    | none => match xLL ins with
      | some f => (match st with
        | .inr (.inl y) :: .inr (.inl x) :: r => some (pc + 1, ls, .inr (.inl (f x y)) :: r, M)
        | _ => none)
      | none => none
