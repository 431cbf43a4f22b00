/-! THE INTERPRETER: a memory of numbered cells, a frame of locals and stack, over decoded instructions with their operands resolved.
Numbers of kinds: 0 .. the classes; 20 int[], 21 byte[], 22 long[], 23 World[], 24 long[][]. A reference is a number of a cell; '.retAddr 0' is the script. -/
abbrev xE : Type := Instr × Nat × Nat × Int
abbrev xT : Type := List (List (Option xE))
abbrev xO : Type := Nat × List Value
abbrev xM : Type := List xO
abbrev xL : Type := List (Nat × Value)
abbrev xC : Type := Nat × xL × List Value × xM
def xnth {α : Type} : List α → Nat → Option α
  | [], _ => none
  | a :: _, 0 => some a
  | _ :: l, n + 1 => xnth l n
def xfind : xL → Nat → Option Value
  | [], _ => none
  | (j, v) :: l, i => bif Nat.beq j i then some v else xfind l i
def xcat (v : Value) : Nat := match v with
  | .long _ => 2
  | .double _ => 2
  | _ => 1
def xdrop1 (i : Nat) : xL → xL
  | [] => []
  | (j, v) :: l => bif (Nat.beq j i || (Nat.beq (j + 1) i && Nat.beq (xcat v) 2)) then xdrop1 i l else (j, v) :: xdrop1 i l
def xdrop2 (i : Nat) : xL → xL
  | [] => []
  | (j, v) :: l => bif (Nat.beq j i || (Nat.beq j (i + 1) || (Nat.beq (j + 1) i && Nat.beq (xcat v) 2))) then xdrop2 i l else (j, v) :: xdrop2 i l
def xst1 (L : xL) (i : Nat) (v : Value) : xL := (i, v) :: xdrop1 i L
def xst2 (L : xL) (i : Nat) (v : Value) : xL := (i, v) :: xdrop2 i L
def xcmp (c : ClassFile.Cond) (x y : Int32) : Bool := match c with
  | .eq => decide (x = y)
  | .ne => !decide (x = y)
  | .lt => decide (x < y)
  | .ge => decide (y ≤ x)
  | .gt => decide (y < x)
  | .le => decide (x ≤ y)
def xii (g : Int32 → Int32 → Int32) (pc : Nat) (L : xL) (st : List Value) (M : xM) : Option xC := match st with
  | .int y :: .int x :: r => some (pc + 1, L, .int (g x y) :: r, M)
  | _ => none
def xll (g : Int64 → Int64 → Int64) (pc : Nat) (L : xL) (st : List Value) (M : xM) : Option xC := match st with
  | .long y :: .long x :: r => some (pc + 1, L, .long (g x y) :: r, M)
  | _ => none
def xli (g : Int64 → Int32 → Int64) (pc : Nat) (L : xL) (st : List Value) (M : xM) : Option xC := match st with
  | .int y :: .long x :: r => some (pc + 1, L, .long (g x y) :: r, M)
  | _ => none
def xi (g : Int32 → Int32) (pc : Nat) (L : xL) (st : List Value) (M : xM) : Option xC := match st with
  | .int x :: r => some (pc + 1, L, .int (g x) :: r, M)
  | _ => none
def xpI (n pc i : Nat) (L : xL) (st : List Value) (M : xM) : Option xC := match xfind L i with
  | some (.int v) => some (pc + n, L, .int v :: st, M)
  | _ => none
def xpL (n pc i : Nat) (L : xL) (st : List Value) (M : xM) : Option xC := match xfind L i with
  | some (.long v) => some (pc + n, L, .long v :: st, M)
  | _ => none
def xpA (n pc i : Nat) (L : xL) (st : List Value) (M : xM) : Option xC := match xfind L i with
  | some (.ref v) => some (pc + n, L, .ref v :: st, M)
  | some (.retAddr 0) => some (pc + n, L, .retAddr 0 :: st, M)
  | _ => none
def xsI (n pc i : Nat) (L : xL) (st : List Value) (M : xM) : Option xC := match st with
  | .int v :: r => some (pc + n, xst1 L i (.int v), r, M)
  | _ => none
def xsL (n pc i : Nat) (L : xL) (st : List Value) (M : xM) : Option xC := match st with
  | .long v :: r => some (pc + n, xst2 L i (.long v), r, M)
  | _ => none
def xsA (n pc i : Nat) (L : xL) (st : List Value) (M : xM) : Option xC := match st with
  | .ref v :: r => some (pc + n, xst1 L i (.ref v), r, M)
  | _ => none
/-- the place of an index in a row of n, if it is one -/
def xix (j : Int32) (n : Nat) : Option Nat := bif decide (j < 0) || Nat.ble n j.toNatClampNeg then none else some j.toNatClampNeg
/-- an array's cell of a kind -/
def xarr (M : xM) (a k : Nat) : Option (List Value) := match xnth M a with
  | some o => bif Nat.beq o.1 k then some o.2 else none
  | none => none
def xald (k pc : Nat) (L : xL) (st : List Value) (M : xM) : Option xC := match st with
  | .int j :: .ref a :: r => match xarr M a k with
    | some sl => match xix j sl.length with
      | some i => match xnth sl i with
        | some v => some (pc + 1, L, v :: r, M)
        | none => none
      | none => none
    | none => none
  | _ => none
def xiald (sc : List Int32) (pc : Nat) (L : xL) (st : List Value) (M : xM) : Option xC := match st with
  | .int j :: .retAddr 0 :: r => match xix j sc.length with
    | some i => some (pc + 1, L, .int (sc.getD i 0) :: r, M)
    | none => none
  | _ => xald 20 pc L st M
def xwr (M : xM) (a k i : Nat) (sl : List Value) (v : Value) : xM := M.set a (k, sl.set i v)
def xast (k : Nat) (g : Value → Option Value) (pc : Nat) (L : xL) (st : List Value) (M : xM) : Option xC := match st with
  | v :: .int j :: .ref a :: r => match g v with
    | some w => match xarr M a k with
      | some sl => match xix j sl.length with
        | some i => some (pc + 1, L, r, xwr M a k i sl w)
        | none => none
      | none => none
    | none => none
  | _ => none
def xgI (v : Value) : Option Value := match v with
  | .int x => some (.int x)
  | _ => none
def xgB (v : Value) : Option Value := match v with
  | .int x => some (.int x.toInt8.toInt32)
  | _ => none
def xgL (v : Value) : Option Value := match v with
  | .long x => some (.long x)
  | _ => none
/-- a World stored into a World[] -/
def xastW (w : Nat) (pc : Nat) (L : xL) (st : List Value) (M : xM) : Option xC := match st with
  | .ref v :: .int j :: .ref a :: r => match xarr M v w with
    | some _ => match xarr M a 23 with
      | some sl => match xix j sl.length with
        | some i => some (pc + 1, L, r, xwr M a 23 i sl (.ref v))
        | none => none
      | none => none
    | none => none
  | _ => none
def xlen (sc : List Int32) (pc : Nat) (L : xL) (st : List Value) (M : xM) : Option xC := match st with
  | .retAddr 0 :: r => some (pc + 1, L, .int (Int32.ofNat sc.length) :: r, M)
  | .ref a :: r => match xnth M a with
    | some o => bif Nat.beq o.1 20 || Nat.beq o.1 22 then some (pc + 1, L, .int (Int32.ofNat o.2.length) :: r, M) else none
    | none => none
  | _ => none
def xkA (t : ArrayType) : Option (Nat × Value) := match t with
  | .int => some (20, .int 0)
  | .byte => some (21, .int 0)
  | .long => some (22, .long 0)
  | _ => none
def xnewa (t : ArrayType) (pc : Nat) (L : xL) (st : List Value) (M : xM) : Option xC := match st with
  | .int n :: r => match xkA t with
    | some (k, v) => bif decide (n < 0) || Nat.blt 100000 n.toNatClampNeg then none else some (pc + 2, L, .ref M.length :: r, M ++ [(k, List.replicate n.toNatClampNeg v)])
    | none => none
  | _ => none
def xnewq (pc : Nat) (L : xL) (st : List Value) (M : xM) : Option xC := match st with
  | .int n :: r => bif decide (n < 0) || Nat.blt 100000 n.toNatClampNeg then none else some (pc + 3, L, .ref M.length :: r, M ++ [(23, List.replicate n.toNatClampNeg .null)])
  | _ => none
def xrefs (q n : Nat) : List Value := (List.range n).map fun i => .ref (q + i)
def xmna (pc : Nat) (L : xL) (st : List Value) (M : xM) : Option xC := match st with
  | .int k :: .int n :: r => bif decide (n < 0) || Nat.blt 100000 n.toNatClampNeg || (decide (k < 0) || Nat.blt 100000 k.toNatClampNeg) then none
    else some (pc + 4, L, .ref M.length :: r, (M ++ [(24, xrefs (M.length + 1) n.toNatClampNeg)]) ++ List.replicate n.toNatClampNeg (22, List.replicate k.toNatClampNeg (.long 0)))
  | _ => none
def xget (ci k pc : Nat) (L : xL) (st : List Value) (M : xM) : Option xC := match st with
  | .ref a :: r => match xarr M a ci with
    | some sl => match xnth sl k with
      | some v => some (pc + 3, L, v :: r, M)
      | none => none
    | none => none
  | _ => none
def xfit (ty : FieldType) (v : Value) : Bool := match ty, v with
  | .int, .int _ => true
  | .boolean, .int x => decide (x = 0) || decide (x = 1)
  | .long, .long _ => true
  | .object _, .ref _ => true
  | .array _, .ref _ => true
  | _, _ => false
def xput (ty : Nat → Nat → FieldType) (ci k pc : Nat) (L : xL) (st : List Value) (M : xM) : Option xC := match st with
  | v :: .ref a :: r => bif xfit (ty ci k) v then (match xarr M a ci with
    | some sl => bif Nat.blt k sl.length then some (pc + 3, L, r, xwr M a ci k sl v) else none
    | none => none) else none
  | _ => none
def xsw (dflt lo hi : Int) (offs : Array Int) (pc : Nat) (L : xL) (st : List Value) (M : xM) : Option xC := match st with
  | .int x :: r => bif decide (x.toInt < lo) || decide (hi < x.toInt) then some (((pc : Int) + dflt).toNat, L, r, M)
    else match xnth offs.toList (x.toInt - lo).toNat with
      | some off => some (((pc : Int) + off).toNat, L, r, M)
      | none => none
  | _ => none
/-- System.arraycopy of ints or longs -/
def xcpy (sl dl : List Value) (sp dp n : Nat) : List Value := dl.take dp ++ ((sl.drop sp).take n ++ dl.drop (dp + n))
def xacopy (k pc : Nat) (L : xL) (n dp sp : Int32) (d s : Nat) (r : List Value) (M : xM) : Option xC := match xarr M s k with
  | some sl => match xarr M d k with
    | some dl => bif decide (sp < 0) || decide (dp < 0) || decide (n < 0) || Nat.blt sl.length (sp.toNatClampNeg + n.toNatClampNeg) || Nat.blt dl.length (dp.toNatClampNeg + n.toNatClampNeg) then none
      else some (pc + 3, L, r, M.set d (k, xcpy sl dl sp.toNatClampNeg dp.toNatClampNeg n.toNatClampNeg))
    | none => none
  | none => none
def xcat8 (st : List Value) : Bool := Nat.ble (st.map Value.category).sum 8
def xcopy (pc : Nat) (L : xL) (st : List Value) (M : xM) : Option xC := match st with
  | .int n :: .int dp :: .ref d :: .int sp :: .ref s :: r => bif xcat8 r then (match xacopy 20 pc L n dp sp d s r M with
    | some q => some q
    | none => xacopy 22 pc L n dp sp d s r M) else none
  | _ => none
/-- Math.max, min of ints -/
def xmath (g : Int32 → Int32 → Int32) (pc : Nat) (L : xL) (st : List Value) (M : xM) : Option xC := match st with
  | .int y :: .int x :: r => bif xcat8 r then some (pc + 3, L, .int (g x y) :: r, M) else none
  | _ => none
/-- one instruction that calls nothing and doesn't return -/
def x1 (ty : Nat → Nat → FieldType) (df : Nat → List Value) (sc : List Int32) (e : xE) (pc : Nat) (L : xL) (st : List Value) (M : xM) : Option xC := match e.1 with
  | .iconst n => some (pc + 1, L, .int (Int32.ofInt n) :: st, M)
  | .bipush n => some (pc + 2, L, .int (Int8.ofInt n).toInt32 :: st, M)
  | .sipush n => some (pc + 3, L, .int (Int16.ofInt n).toInt32 :: st, M)
  | .lconst n => some (pc + 1, L, .long (Int64.ofNat n) :: st, M)
  | .ldc _ => bif Nat.beq e.2.1 0 then some (pc + 2, L, .int (Int32.ofInt e.2.2.2) :: st, M) else none
  | .ldc_w _ => bif Nat.beq e.2.1 0 then some (pc + 3, L, .int (Int32.ofInt e.2.2.2) :: st, M) else none
  | .ldc2_w _ => some (pc + 3, L, .long (Int64.ofInt e.2.2.2) :: st, M)
  | .iload i => xpI 2 pc i L st M
  | .iload_n i => xpI 1 pc i L st M
  | .lload i => xpL 2 pc i L st M
  | .lload_n i => xpL 1 pc i L st M
  | .aload i => xpA 2 pc i L st M
  | .aload_n i => xpA 1 pc i L st M
  | .istore i => xsI 2 pc i L st M
  | .istore_n i => xsI 1 pc i L st M
  | .lstore i => xsL 2 pc i L st M
  | .lstore_n i => xsL 1 pc i L st M
  | .astore i => xsA 2 pc i L st M
  | .astore_n i => xsA 1 pc i L st M
  | .iinc i n => match xfind L i with
    | some (.int v) => some (pc + 3, xst1 L i (.int (v + Int32.ofInt n)), st, M)
    | _ => none
  | .iadd => xii (fun x y => x + y) pc L st M
  | .isub => xii (fun x y => x - y) pc L st M
  | .imul => xii (fun x y => x * y) pc L st M
  | .iand => xii (fun x y => x &&& y) pc L st M
  | .ior => xii (fun x y => x ||| y) pc L st M
  | .ixor => xii (fun x y => x ^^^ y) pc L st M
  | .ishl => xii (fun x y => x <<< (y &&& 31)) pc L st M
  | .ishr => xii (fun x y => x >>> (y &&& 31)) pc L st M
  | .iushr => xii (fun x y => (x.toUInt32 >>> (y.toUInt32 &&& Int32.toUInt32 31)).toInt32) pc L st M
  | .idiv => match st with
    | .int y :: .int x :: r => bif decide (y = 0) then none else some (pc + 1, L, .int (x / y) :: r, M)
    | _ => none
  | .irem => match st with
    | .int y :: .int x :: r => bif decide (y = 0) then none else some (pc + 1, L, .int (x - x / y * y) :: r, M)
    | _ => none
  | .ineg => xi (fun x => -x) pc L st M
  | .i2b => xi (fun x => x.toInt8.toInt32) pc L st M
  | .i2s => xi (fun x => x.toInt16.toInt32) pc L st M
  | .i2l => match st with
    | .int x :: r => some (pc + 1, L, .long x.toInt64 :: r, M)
    | _ => none
  | .l2i => match st with
    | .long x :: r => some (pc + 1, L, .int x.toInt32 :: r, M)
    | _ => none
  | .ladd => xll (fun x y => x + y) pc L st M
  | .lsub => xll (fun x y => x - y) pc L st M
  | .lmul => xll (fun x y => x * y) pc L st M
  | .land => xll (fun x y => x &&& y) pc L st M
  | .lor => xll (fun x y => x ||| y) pc L st M
  | .lxor => xll (fun x y => x ^^^ y) pc L st M
  | .ldiv => match st with
    | .long y :: .long x :: r => bif decide (y = 0) then none else some (pc + 1, L, .long (x / y) :: r, M)
    | _ => none
  | .lrem => match st with
    | .long y :: .long x :: r => bif decide (y = 0) then none else some (pc + 1, L, .long (x - x / y * y) :: r, M)
    | _ => none
  | .lshl => xli (fun x y => x <<< (y.toInt64 &&& 63)) pc L st M
  | .lshr => xli (fun x y => x >>> (y.toInt64 &&& 63)) pc L st M
  | .lushr => xli (fun x y => (x.toUInt64 >>> (y.toInt64.toUInt64 &&& Int64.toUInt64 63)).toInt64) pc L st M
  | .lcmp => match st with
    | .long y :: .long x :: r => some (pc + 1, L, .int (lg_cmp x y) :: r, M)
    | _ => none
  | .dup => match st with
    | v :: r => bif Nat.beq (xcat v) 1 then some (pc + 1, L, v :: v :: r, M) else none
    | _ => none
  | .dup2 => match st with
    | v :: w :: r => bif Nat.beq (xcat v) 1 && Nat.beq (xcat w) 1 then some (pc + 1, L, v :: w :: v :: w :: r, M) else bif Nat.beq (xcat v) 2 then some (pc + 1, L, v :: v :: w :: r, M) else none
    | _ => none
  | .pop => match st with
    | v :: r => bif Nat.beq (xcat v) 1 then some (pc + 1, L, r, M) else none
    | _ => none
  | .goto _ => some (e.2.1, L, st, M)
  | .if_icmp c _ => match st with
    | .int y :: .int x :: r => some (bif xcmp c x y then e.2.1 else pc + 3, L, r, M)
    | _ => none
  | .ifCond c _ => match st with
    | .int x :: r => some (bif xcmp c x 0 then e.2.1 else pc + 3, L, r, M)
    | _ => none
  | .tableswitch dflt lo hi offs => xsw dflt lo hi offs pc L st M
  | .iaload => xiald sc pc L st M
  | .baload => xald 21 pc L st M
  | .laload => xald 22 pc L st M
  | .aaload => match xald 23 pc L st M with
    | some q => some q
    | none => xald 24 pc L st M
  | .iastore => xast 20 xgI pc L st M
  | .bastore => xast 21 xgB pc L st M
  | .lastore => xast 22 xgL pc L st M
  | .aastore => xastW 10 pc L st M
  | .arraylength => xlen sc pc L st M
  | .newarray t => xnewa t pc L st M
  | .anewarray _ => xnewq pc L st M
  | .multianewarray _ _ => xmna pc L st M
  | .new _ => some (pc + 3, L, .ref M.length :: st, M ++ [(e.2.1, df e.2.1)])
  | .getfield _ => xget e.2.1 e.2.2.1 pc L st M
  | .putfield _ => xput ty e.2.1 e.2.2.1 pc L st M
  | .invokespecial _ => match st with
    | .ref _ :: r => bif Nat.beq e.2.1 5000 && xcat8 r then some (pc + 3, L, r, M) else none
    | _ => none
  | .invokestatic _ => match e.2.1 with
    | 5001 => xcopy pc L st M
    | 5002 => xmath (fun x y => if x < y then y else x) pc L st M
    | 5003 => xmath (fun x y => if y < x then y else x) pc L st M
    | 5004 => (match st with
      | .int x :: r => bif xcat8 r then some (pc + 3, L, .int (if 0 ≤ x then x else 0 - x) :: r, M) else none
      | _ => none)
    | _ => none
  | _ => none
/-- a method: its code, its locals, what it answers (0 nothing, 1 an int, 2 a long, 3 a boolean) -/
abbrev xR : Type := xT × Nat × Nat
def xat (T : xT) (pc : Nat) : Option xE := match xnth T (pc / 8) with
  | some l => match xnth l (pc % 8) with
    | some e => e
    | none => none
  | none => none
def xpop : Nat → List Value → List Value → Option (List Value × List Value)
  | 0, acc, st => some (acc, st)
  | n + 1, acc, v :: st => xpop n (v :: acc) st
  | _ + 1, _, [] => none
/-- the end of a method -/
def xend (rk : Nat) (e : xE) (st : List Value) : Option (Option Value) := match e.1 with
  | .return_ => bif Nat.beq rk 0 then (match st with
    | [] => some none
    | _ => none) else none
  | .ireturn => match st with
    | [.int v] => bif Nat.beq rk 1 || (Nat.beq rk 3 && (decide (v = 0) || decide (v = 1))) then some (some (.int v)) else none
    | _ => none
  | .lreturn => match st with
    | [.long v] => bif Nat.beq rk 2 then some (some (.long v)) else none
    | _ => none
  | _ => none
/-- is it a call of a method of the table, or the end of one? 1 a call, 2 the end, 0 neither -/
def xkind (e : xE) : Nat := match e.1 with
  | .invokevirtual _ => bif Nat.ble 5000 e.2.1 then 0 else 1
  | .invokestatic _ => bif Nat.ble 5001 e.2.1 then 0 else 1
  | .invokespecial _ => bif Nat.ble 5000 e.2.1 then 0 else 1
  | .return_ => 2
  | .ireturn => 2
  | .lreturn => 2
  | _ => 0
def xrecv (e : xE) (as : List Value) (M : xM) : Bool := match e.1 with
  | .invokestatic _ => true
  | .invokespecial _ => (match as with
    | .ref _ :: _ => true
    | _ => false)
  | _ => match as with
    | .ref a :: _ => (match xarr M a e.2.2.2.toNat with
      | some _ => true
      | none => false)
    | _ => false
def xcats : List Value → Nat
  | [] => 0
  | v :: l => xcat v + xcats l
def xpush (r : Option Value) (st : List Value) : List Value := match r with
  | none => st
  | some v => v :: st
def xrun (ms : Nat → Option xR) (ty : Nat → Nat → FieldType) (df : Nat → List Value) (sc : List Int32) : Nat → xR → Nat → xL → List Value → xM → Option (Option Value × xM)
  | 0, _, _, _, _, _ => none
  | f + 1, r, pc, L, st, M => match xat r.1 pc with
    | none => none
    | some e => match xkind e with
      | 0 => match x1 ty df sc e pc L st M with
        | none => none
        | some q => xrun ms ty df sc f r q.1 q.2.1 q.2.2.1 q.2.2.2
      | 1 => match xpop e.2.2.1 [] st with
        | none => none
        | some (as, rest) => bif xcat8 rest && xrecv e as M then (match ms e.2.1 with
          | none => none
          | some r' => bif Nat.ble (xcats as) r'.2.1 then (match xrun ms ty df sc f r' 0 (lv_args 0 as) [] M with
            | none => none
            | some q => xrun ms ty df sc f r (pc + 3) L (xpush q.1 rest) q.2) else none) else none
      | _ => match xend r.2.2 e st with
        | none => none
        | some v => some (v, M)
