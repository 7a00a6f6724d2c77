/-! one instruction on my states: what it asks (a Prop), and the state behind it -/
/-- an instruction with what a program found out of it: (instruction, length, class or target, field, constants) -/
abbrev OP : Type := Instr × Nat × Nat × Nat × Int32 × Int64
abbrev AS : Type := Nat × List (Option Value) × List Value × T2 × T3
abbrev o0 (i : Instr) (n : Nat) : OP := (i, n, 0, 0, 0, 0)
abbrev oK (i : Instr) (n k j : Nat) : OP := (i, n, k, j, 0, 0)
abbrev oI (i : Instr) (n : Nat) (v : Int32) : OP := (i, n, 0, 0, v, 0)
abbrev oL (i : Instr) (n : Nat) (v : Int64) : OP := (i, n, 0, 0, 0, v)
def okst (ls : List (Option Value)) (i : Nat) : Bool := match i with
  | 0 => true
  | i + 1 => match ls[i]? with
    | some (some (.long _)) => false
    | some (some (.double _)) => false
    | _ => true
def s_bi (f : Int32 → Int32 → Int32) (g : Int32 → Prop) (pc : Nat) (ls : List (Option Value)) (st : List Value) (I : T2) (J : T3) : Option (Prop × AS) := match st with
  | .int y :: .int x :: r => some (g y, pc + 1, ls, .int (f x y) :: r, I, J)
  | _ => none
def s_bl (f : Int64 → Int64 → Int64) (g : Int64 → Prop) (pc : Nat) (ls : List (Option Value)) (st : List Value) (I : T2) (J : T3) : Option (Prop × AS) := match st with
  | .long y :: .long x :: r => some (g y, pc + 1, ls, .long (f x y) :: r, I, J)
  | _ => none
def s_ld (t : Value → Bool) (i n : Nat) (pc : Nat) (ls : List (Option Value)) (st : List Value) (I : T2) (J : T3) : Option (Prop × AS) := match ls[i]? with
  | some (some v) => if t v then some (True, pc + n, ls, v :: st, I, J) else none
  | _ => none
def isI (v : Value) : Bool := match v with | .int _ => true | _ => false
def isJ (v : Value) : Bool := match v with | .long _ => true | _ => false
def isA (v : Value) : Bool := match v with | .ref _ => true | .retAddr _ => true | _ => false
def s_is (i n nL : Nat) (pc : Nat) (ls : List (Option Value)) (st : List Value) (I : T2) (J : T3) : Option (Prop × AS) := match st with
  | .int x :: r => if okst ls i && decide (i < nL) then some (True, pc + n, ls.set i (some (.int x)), r, I, J) else none
  | _ => none
def s_as (i n nL : Nat) (pc : Nat) (ls : List (Option Value)) (st : List Value) (I : T2) (J : T3) : Option (Prop × AS) := match st with
  | .ref x :: r => if okst ls i && decide (i < nL) then some (True, pc + n, ls.set i (some (.ref x)), r, I, J) else none
  | _ => none
def s_ls (i n nL : Nat) (pc : Nat) (ls : List (Option Value)) (st : List Value) (I : T2) (J : T3) : Option (Prop × AS) := match st with
  | .long x :: r => if okst ls i && decide (i + 1 < nL) then some (True, pc + n, (ls.set i (some (.long x))).set (i + 1) none, r, I, J) else none
  | _ => none
def s_put (k j : Nat) (pc : Nat) (ls : List (Option Value)) (st : List Value) (I : T2) (J : T3) : Option (Prop × AS) := match cTy k j, st with
  | .int, .int x :: .ref o :: r => some (kd o = k, pc + 3, ls, r, up2 I o j x, J)
  | .boolean, .int x :: .ref o :: r => some (kd o = k ∧ (x = 0 ∨ x = 1), pc + 3, ls, r, up2 I o j x, J)
  | .long, .long x :: .ref o :: r => some (kd o = k, pc + 3, ls, r, I, up3 J o j x)
  | _, _ => none
def s_get (k j : Nat) (pc : Nat) (ls : List (Option Value)) (st : List Value) (I : T2) (J : T3) : Option (Prop × AS) := match st with
  | .ref o :: r => match (fls k o (I o) (J o))[j]? with
    | some v => some (kd o = k, pc + 3, ls, v :: r, I, J)
    | none => none
  | _ => none
def s_iald (L : Nat) (xs : Nat → Int32) (pc : Nat) (ls : List (Option Value)) (st : List Value) (I : T2) (J : T3) : Option (Prop × AS) := match st with
  | .int i :: .ref o :: r => some (kd o = 8 ∧ vp_in i (ln o), pc + 1, ls, .int (I o i.toNatClampNeg) :: r, I, J)
  | .int i :: .retAddr _ :: r => some (vp_in i L, pc + 1, ls, .int (xs i.toNatClampNeg) :: r, I, J)
  | _ => none
def s_alen (L : Nat) (pc : Nat) (ls : List (Option Value)) (st : List Value) (I : T2) (J : T3) : Option (Prop × AS) := match st with
  | .ref o :: r => some (kd o = 8, pc + 1, ls, .int (nI (ln o)) :: r, I, J)
  | .retAddr _ :: r => some (0 < L, pc + 1, ls, .int (nI L) :: r, I, J)
  | _ => none
def stp (nL L : Nat) (xs : Nat → Int32) (op : OP) (pc : Nat) (ls : List (Option Value)) (st : List Value) (I : T2) (J : T3) : Option (Prop × AS) := match op with
  | (.iconst _, 1, _, _, v, _) => some (True, pc + 1, ls, .int v :: st, I, J)
  | (.bipush _, 2, _, _, v, _) => some (True, pc + 2, ls, .int v :: st, I, J)
  | (.sipush _, 3, _, _, v, _) => some (True, pc + 3, ls, .int v :: st, I, J)
  | (.ldc _, 2, _, _, v, _) => some (True, pc + 2, ls, .int v :: st, I, J)
  | (.lconst _, 1, _, _, _, w) => some (True, pc + 1, ls, .long w :: st, I, J)
  | (.ldc2_w _, 3, _, _, _, w) => some (True, pc + 3, ls, .long w :: st, I, J)
  | (.iload_n k, 1, _) => s_ld isI k 1 pc ls st I J
  | (.iload i, 2, _) => s_ld isI i 2 pc ls st I J
  | (.lload_n k, 1, _) => s_ld isJ k 1 pc ls st I J
  | (.lload i, 2, _) => s_ld isJ i 2 pc ls st I J
  | (.aload_n k, 1, _) => s_ld isA k 1 pc ls st I J
  | (.aload i, 2, _) => s_ld isA i 2 pc ls st I J
  | (.istore_n k, 1, _) => s_is k 1 nL pc ls st I J
  | (.istore i, 2, _) => s_is i 2 nL pc ls st I J
  | (.astore_n k, 1, _) => s_as k 1 nL pc ls st I J
  | (.astore i, 2, _) => s_as i 2 nL pc ls st I J
  | (.lstore_n k, 1, _) => s_ls k 1 nL pc ls st I J
  | (.lstore i, 2, _) => s_ls i 2 nL pc ls st I J
  | (.iinc i _, 3, _, _, v, _) => match ls[i]? with
    | some (some (.int x)) => if okst ls i && decide (i < nL) then some (True, pc + 3, ls.set i (some (.int (x + v))), st, I, J) else none
    | _ => none
  | (.iadd, 1, _) => s_bi (· + ·) (fun _ => True) pc ls st I J
  | (.isub, 1, _) => s_bi (· - ·) (fun _ => True) pc ls st I J
  | (.imul, 1, _) => s_bi (· * ·) (fun _ => True) pc ls st I J
  | (.iand, 1, _) => s_bi (· &&& ·) (fun _ => True) pc ls st I J
  | (.ixor, 1, _) => s_bi (· ^^^ ·) (fun _ => True) pc ls st I J
  | (.idiv, 1, _) => s_bi (· / ·) (fun y => ¬ y = 0) pc ls st I J
  | (.irem, 1, _) => s_bi (fun x y => x - x / y * y) (fun y => ¬ y = 0) pc ls st I J
  | (.ladd, 1, _) => s_bl (· + ·) (fun _ => True) pc ls st I J
  | (.lsub, 1, _) => s_bl (· - ·) (fun _ => True) pc ls st I J
  | (.lmul, 1, _) => s_bl (· * ·) (fun _ => True) pc ls st I J
  | (.land, 1, _) => s_bl (· &&& ·) (fun _ => True) pc ls st I J
  | (.ldiv, 1, _) => s_bl (· / ·) (fun y => ¬ y = 0) pc ls st I J
  | (.lrem, 1, _) => s_bl (fun x y => x - x / y * y) (fun y => ¬ y = 0) pc ls st I J
  | (.ineg, 1, _) => match st with
    | .int x :: r => some (True, pc + 1, ls, .int (-x) :: r, I, J)
    | _ => none
  | (.i2l, 1, _) => match st with
    | .int x :: r => some (True, pc + 1, ls, .long x.toInt64 :: r, I, J)
    | _ => none
  | (.l2i, 1, _) => match st with
    | .long x :: r => some (True, pc + 1, ls, .int x.toInt32 :: r, I, J)
    | _ => none
  | (.lcmp, 1, _) => match st with
    | .long y :: .long x :: r => some (True, pc + 1, ls, .int (lg_cmp x y) :: r, I, J)
    | _ => none
  | (.dup, 1, _) => match st with
    | v :: r => if v.category = 1 then some (True, pc + 1, ls, v :: v :: r, I, J) else none
    | _ => none
  | (.dup2, 1, _) => match st with
    | v :: w :: r => if v.category = 1 ∧ w.category = 1 then some (True, pc + 1, ls, v :: w :: v :: w :: r, I, J) else none
    | _ => none
  | (.pop, 1, _) => match st with
    | v :: r => if v.category = 1 then some (True, pc + 1, ls, r, I, J) else none
    | _ => none
  | (.goto _, 3, k, _) => some (True, k, ls, st, I, J)
  | (.getfield _, 3, k, j, _) => s_get k j pc ls st I J
  | (.putfield _, 3, k, j, _) => s_put k j pc ls st I J
  | (.iaload, 1, _) => s_iald L xs pc ls st I J
  | (.iastore, 1, _) => match st with
    | .int x :: .int i :: .ref o :: r => some (kd o = 8 ∧ vp_in i (ln o), pc + 1, ls, r, up2 I o i.toNatClampNeg x, J)
    | _ => none
  | (.laload, 1, _) => match st with
    | .int i :: .ref o :: r => some (kd o = 9 ∧ vp_in i (ln o), pc + 1, ls, .long (J o i.toNatClampNeg) :: r, I, J)
    | _ => none
  | (.lastore, 1, _) => match st with
    | .long x :: .int i :: .ref o :: r => some (kd o = 9 ∧ vp_in i (ln o), pc + 1, ls, r, I, up3 J o i.toNatClampNeg x)
    | _ => none
  | (.baload, 1, _) => match st with
    | .int i :: .ref o :: r => some (kd o = 10 ∧ vp_in i (ln o), pc + 1, ls, .int (I o i.toNatClampNeg) :: r, I, J)
    | _ => none
  | (.bastore, 1, _) => match st with
    | .int x :: .int i :: .ref o :: r => some (kd o = 10 ∧ vp_in i (ln o) ∧ (x = 0 ∨ x = 1), pc + 1, ls, r, up2 I o i.toNatClampNeg x, J)
    | _ => none
  | (.aaload, 1, k, _) => match st with
    | .int i :: .ref o :: r => if k = 11 then some (kd o = 11 ∧ vp_in i (ln o), pc + 1, ls, .ref (24 + 14 * i.toNatClampNeg) :: r, I, J)
      else if k = 12 then some (kd o = 12 ∧ vp_in i (ln o), pc + 1, ls, .ref (o + 1 + i.toNatClampNeg) :: r, I, J) else none
    | _ => none
  | (.arraylength, 1, _) => s_alen L pc ls st I J
  | _ => none
/-- what a program says of an instruction is right -/
def opOk (own : Nat) (op : OP) (pc : Nat) : Bool := match op with
  | (.iconst n, _, _, _, v, _) => decide (Int32.ofInt n = v)
  | (.bipush n, _, _, _, v, _) => decide ((Int8.ofInt n).toInt32 = v)
  | (.sipush n, _, _, _, v, _) => decide ((Int16.ofInt n).toInt32 = v)
  | (.lconst n, _, _, _, _, w) => decide (Int64.ofNat (n : Nat) = w)
  | (.ldc i, _, _, _, v, _) => decide ((own, i, v) ∈ ldA)
  | (.ldc2_w i, _, _, _, _, w) => decide ((own, i, w) ∈ ldB)
  | (.iinc _ n, _, _, _, v, _) => decide (Int32.ofInt n = v)
  | (.goto off, _, k, _) => decide ((pc : Int) + off = (k : Int))
  | (.getfield i, _, k, j, _) => decide ((own, i, k, j) ∈ lfT)
  | (.putfield i, _, k, j, _) => decide ((own, i, k, j) ∈ lfT) && ((cT k j).2.2.2 == false) && (decide ((k, j) ∈ ifT) || decide ((k, j) ∈ jfT))
  | _ => true
