def yl1 (n pc i : Nat) (L : xL) (st : List Value) (M : xM) : Option xC := match xfind L i with
  | some (.int v) => some (pc + n, L, .int v :: st, M)
  | some (.float v) => some (pc + n, L, .float v :: st, M)
  | _ => none
def yl2 (n pc i : Nat) (L : xL) (st : List Value) (M : xM) : Option xC := match xfind L i with
  | some (.long v) => some (pc + n, L, .long v :: st, M)
  | some (.double v) => some (pc + n, L, .double v :: st, M)
  | _ => none
def ys1 (n pc i : Nat) (L : xL) (st : List Value) (M : xM) : Option xC := match st with
  | .int v :: r => some (pc + n, xst1 L i (.int v), r, M)
  | .float v :: r => some (pc + n, xst1 L i (.float v), r, M)
  | _ => none
def ys2 (n pc i : Nat) (L : xL) (st : List Value) (M : xM) : Option xC := match st with
  | .long v :: r => some (pc + n, xst2 L i (.long v), r, M)
  | .double v :: r => some (pc + n, xst2 L i (.double v), r, M)
  | _ => none
def yii (g : Int32 → Int32 → Int32) (pc : Nat) (L : xL) (st : List Value) (M : xM) : Option xC := match st with
  | .int y :: .int x :: r => some (pc + 1, L, .int (g x y) :: r, M)
  | .float _ :: .int _ :: r => some (pc + 1, L, .float 0 :: r, M)
  | .int _ :: .float _ :: r => some (pc + 1, L, .float 0 :: r, M)
  | .float _ :: .float _ :: r => some (pc + 1, L, .float 0 :: r, M)
  | _ => none
def yi (g : Int32 → Int32) (pc : Nat) (L : xL) (st : List Value) (M : xM) : Option xC := match st with
  | .int x :: r => some (pc + 1, L, .int (g x) :: r, M)
  | .float _ :: r => some (pc + 1, L, .float 0 :: r, M)
  | _ => none
def yll (g : Int64 → Int64 → Int64) (pc : Nat) (L : xL) (st : List Value) (M : xM) : Option xC := match st with
  | .long y :: .long x :: r => some (pc + 1, L, .long (g x y) :: r, M)
  | .double _ :: .long _ :: r => some (pc + 1, L, .double 0 :: r, M)
  | .long _ :: .double _ :: r => some (pc + 1, L, .double 0 :: r, M)
  | .double _ :: .double _ :: r => some (pc + 1, L, .double 0 :: r, M)
  | _ => none
def yli (g : Int64 → Int32 → Int64) (pc : Nat) (L : xL) (st : List Value) (M : xM) : Option xC := match st with
  | .int y :: .long x :: r => some (pc + 1, L, .long (g x y) :: r, M)
  | .int _ :: .double _ :: r => some (pc + 1, L, .double 0 :: r, M)
  | _ => none
def ygI (v : Value) : Option Value := match v with
  | .int x => some (.int x)
  | .float u => some (.float u)
  | _ => none
def ygB (v : Value) : Option Value := match v with
  | .int x => some (.int x.toInt8.toInt32)
  | .float _ => some (.float 0)
  | _ => none
def ygL (v : Value) : Option Value := match v with
  | .long x => some (.long x)
  | .double u => some (.double u)
  | _ => none
def yfi : List (Int × Int) → Nat → Int → Int → Nat
  | [], _, _, _ => 0
  | q :: l, n, lo, hi => bif Nat.ble 1 n && (decide (q.1 ≤ lo) && decide (hi ≤ q.2)) then n else yfi l (n + 1) lo hi
/-- a name for the ints of lo .. hi -/
def ynm (bx : List (Int × Int)) (lo hi : Int) : Value := bif decide (-2147483648 ≤ lo) && decide (hi ≤ 2147483647) && (decide ((ybd bx (UInt32.ofNat (yfi bx 0 lo hi)).toNat).1 ≤ lo) && decide (hi ≤ (ybd bx (UInt32.ofNat (yfi bx 0 lo hi)).toNat).2)) then .float (UInt32.ofNat (yfi bx 0 lo hi)) else .float 0
def yadd (bx : List (Int × Int)) (pc : Nat) (L : xL) (st : List Value) (M : xM) : Option xC := match st with
  | .int y :: .float u :: r => bif Nat.beq u.toNat 0 then some (pc + 1, L, .float 0 :: r, M) else some (pc + 1, L, ynm bx ((ybd bx u.toNat).1 + y.toInt) ((ybd bx u.toNat).2 + y.toInt) :: r, M)
  | _ => yii (fun x y => x + y) pc L st M
def ysub (bx : List (Int × Int)) (pc : Nat) (L : xL) (st : List Value) (M : xM) : Option xC := match st with
  | .int y :: .float u :: r => bif Nat.beq u.toNat 0 then some (pc + 1, L, .float 0 :: r, M) else some (pc + 1, L, ynm bx ((ybd bx u.toNat).1 - y.toInt) ((ybd bx u.toNat).2 - y.toInt) :: r, M)
  | _ => yii (fun x y => x - y) pc L st M
def ysc (sa : List Value) : Option (List Value) := match sa with
  | [.null] => none
  | l => some l
def yand (pc : Nat) (L : xL) (st : List Value) (M : xM) : Option xC := match st with
  | .int y :: .retAddr (k + 1) :: r => bif decide (y = 63) then some (pc + 1, L, .int (Int32.ofNat k) :: r, M) else none
  | _ => yii (fun x y => x &&& y) pc L st M
/-- one instruction over intervals: what touches none of them is as it is -/
def ya1 (ty : Nat → Nat → FieldType) (df : Nat → List Value) (bx : List (Int × Int)) (sa : List Value) (e : xE) (pc : Nat) (L : xL) (st : List Value) (M : xM) : Option xC := match e.1 with
  | .iaload => match st with
    | .int j :: .retAddr 0 :: r => match ysc sa with
      | some sl => (match xix j sl.length with
        | some i => (match xnth sl i with
          | some v => some (pc + 1, L, v :: r, M)
          | none => none)
        | none => none)
      | none => none
    | _ => xald 20 pc L st M
  | .arraylength => match st with
    | .retAddr 0 :: r => (match ysc sa with
      | some sl => some (pc + 1, L, .int (Int32.ofNat sl.length) :: r, M)
      | none => none)
    | .ref a :: r => xlen [] pc L (.ref a :: r) M
    | _ => none
  | .iload i => yl1 2 pc i L st M
  | .iload_n i => yl1 1 pc i L st M
  | .lload i => yl2 2 pc i L st M
  | .lload_n i => yl2 1 pc i L st M
  | .istore i => ys1 2 pc i L st M
  | .istore_n i => ys1 1 pc i L st M
  | .lstore i => ys2 2 pc i L st M
  | .lstore_n i => ys2 1 pc i L st M
  | .iadd => yadd bx pc L st M
  | .isub => ysub bx pc L st M
  | .imul => yii (fun x y => x * y) pc L st M
  | .iand => yand pc L st M
  | .ior => yii (fun x y => x ||| y) pc L st M
  | .ishr => yii (fun x y => x >>> (y &&& 31)) pc L st M
  | .iushr => yii (fun x y => (x.toUInt32 >>> (y.toUInt32 &&& Int32.toUInt32 31)).toInt32) pc L st M
  | .i2b => yi (fun x => x.toInt8.toInt32) pc L st M
  | .i2l => match st with
    | .int x :: r => some (pc + 1, L, .long x.toInt64 :: r, M)
    | .float u :: r => some (pc + 1, L, .double u.toUInt64 :: r, M)
    | _ => none
  | .ladd => yll (fun x y => x + y) pc L st M
  | .lsub => yll (fun x y => x - y) pc L st M
  | .land => yll (fun x y => x &&& y) pc L st M
  | .lor => yll (fun x y => x ||| y) pc L st M
  | .lshl => yli (fun x y => x <<< (y.toInt64 &&& 63)) pc L st M
  | .lcmp => match st with
    | .long y :: .long x :: r => some (pc + 1, L, .int (lg_cmp x y) :: r, M)
    | .long y :: .double u :: r => bif Nat.beq u.toNat 0 then none else bif decide ((ybd bx u.toNat).2 < y.toInt) then some (pc + 1, L, .int (-1) :: r, M) else bif decide (y.toInt < (ybd bx u.toNat).1) then some (pc + 1, L, .int 1 :: r, M) else bif decide (y.toInt ≤ (ybd bx u.toNat).1) then some (pc + 1, L, .float 1 :: r, M) else bif decide ((ybd bx u.toNat).2 ≤ y.toInt) then some (pc + 1, L, .float 2 :: r, M) else none
    | _ => none
  | .if_icmp c _ => match st with
    | .int y :: .int x :: r => some (bif xcmp c x y then e.2.1 else pc + 3, L, r, M)
    | w :: v :: r => match ylt bx v w with
      | some q => match ydec c q.1 q.2.1 q.2.2.1 q.2.2.2 with
        | some t => some (bif t then e.2.1 else pc + 3, L, r, M)
        | none => none
      | none => none
    | _ => none
  | .ifCond c _ => match st with
    | .int x :: r => some (bif xcmp c x 0 then e.2.1 else pc + 3, L, r, M)
    | v :: r => match ylt bx v (.int 0) with
      | some q => match ydec c q.1 q.2.1 q.2.2.1 q.2.2.2 with
        | some t => some (bif t then e.2.1 else pc + 3, L, r, M)
        | none => none
      | none => none
    | _ => none
  | .tableswitch dflt lo hi offs => match st with
    | .float u :: r => bif Nat.beq u.toNat 0 then none else bif decide ((ybd bx u.toNat).2 < lo) || decide (hi < (ybd bx u.toNat).1) then some (((pc : Int) + dflt).toNat, L, r, M) else none
    | _ => xsw dflt lo hi offs pc L st M
  | .putfield _ => match st with
    | .float u :: .ref a :: r => (match ty e.2.1 e.2.2.1 with
      | .int => (match xarr M a e.2.1 with
        | some sl => bif Nat.blt e.2.2.1 sl.length then some (pc + 3, L, r, xwr M a e.2.1 e.2.2.1 sl (.float u)) else none
        | none => none)
      | _ => none)
    | _ => xput ty e.2.1 e.2.2.1 pc L st M
  | .iastore => xast 20 ygI pc L st M
  | .bastore => xast 21 ygB pc L st M
  | .lastore => xast 22 ygL pc L st M
  | _ => x1 ty df [] e pc L st M
