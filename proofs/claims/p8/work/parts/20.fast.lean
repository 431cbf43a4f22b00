/-! QUICKER WORDS FOR THE KERNEL, each the same as the slower one -/
noncomputable def fnth {α : Type} (l : List α) : Nat → Option α := @List.rec α (fun _ => Nat → Option α) (fun _ => none) (fun a _ ih n => @Nat.rec (fun _ => Option α) (some a) (fun m _ => ih m) n) l
theorem fnth_eq {α : Type} : ∀ (l : List α) (n : Nat), fnth l n = xnth l n
  | [], _ => rfl
  | _ :: _, 0 => rfl
  | _ :: l, n + 1 => fnth_eq l n
noncomputable def fset {α : Type} (l : List α) : Nat → α → List α := @List.rec α (fun _ => Nat → α → List α) (fun _ _ => []) (fun a l ih n v => @Nat.rec (fun _ => List α) (v :: l) (fun m _ => a :: ih m v) n) l
theorem fset_eq {α : Type} : ∀ (l : List α) (n : Nat) (v : α), fset l n v = l.set n v
  | [], _, _ => rfl
  | _ :: _, 0, _ => rfl
  | a :: l, n + 1, v => by
    show a :: fset l n v = _
    rw [fset_eq l n v]
    rfl
noncomputable def ffind (l : xL) : Nat → Option Value := @List.rec (Nat × Value) (fun _ => Nat → Option Value) (fun _ => none) (fun a _ ih i => @Bool.rec (fun _ => Option Value) (ih i) (some a.2) (Nat.beq a.1 i)) l
theorem ffind_eq : ∀ (l : xL) (i : Nat), ffind l i = xfind l i
  | [], _ => rfl
  | (j, v) :: l, i => by
    show @Bool.rec (fun _ => Option Value) (ffind l i) (some v) (Nat.beq j i) = _
    rw [ffind_eq l i]
    cases h : Nat.beq j i <;> simp [xfind, h]
noncomputable def fdrop1 (i : Nat) (l : xL) : xL := @List.rec (Nat × Value) (fun _ => xL) [] (fun a _ ih => @Bool.rec (fun _ => xL) (a :: ih) ih (Nat.beq a.1 i || (Nat.beq (a.1 + 1) i && Nat.beq (xcat a.2) 2))) l
theorem fdrop1_eq (i : Nat) : ∀ (l : xL), fdrop1 i l = xdrop1 i l
  | [] => rfl
  | (j, v) :: l => by
    show @Bool.rec (fun _ => xL) ((j, v) :: fdrop1 i l) (fdrop1 i l) (Nat.beq j i || (Nat.beq (j + 1) i && Nat.beq (xcat v) 2)) = _
    rw [fdrop1_eq i l]
    simp only [xdrop1]
    cases (Nat.beq j i || (Nat.beq (j + 1) i && Nat.beq (xcat v) 2)) <;> rfl
noncomputable def fdrop2 (i : Nat) (l : xL) : xL := @List.rec (Nat × Value) (fun _ => xL) [] (fun a _ ih => @Bool.rec (fun _ => xL) (a :: ih) ih (Nat.beq a.1 i || (Nat.beq a.1 (i + 1) || (Nat.beq (a.1 + 1) i && Nat.beq (xcat a.2) 2)))) l
theorem fdrop2_eq (i : Nat) : ∀ (l : xL), fdrop2 i l = xdrop2 i l
  | [] => rfl
  | (j, v) :: l => by
    show @Bool.rec (fun _ => xL) ((j, v) :: fdrop2 i l) (fdrop2 i l) (Nat.beq j i || (Nat.beq j (i + 1) || (Nat.beq (j + 1) i && Nat.beq (xcat v) 2))) = _
    rw [fdrop2_eq i l]
    simp only [xdrop2]
    cases (Nat.beq j i || (Nat.beq j (i + 1) || (Nat.beq (j + 1) i && Nat.beq (xcat v) 2))) <;> rfl
/-- an int's number, so that the order is that of the numbers -/
def fno (x : Int32) : Nat := (x.toBitVec.toNat + 2147483648) % 4294967296
theorem fno_int (x : Int32) : (fno x : Int) = x.toInt + 2147483648 := by
  have h : x.toInt = x.toBitVec.toInt := rfl
  rw [h, BitVec.toInt_eq_toNat_cond]
  have hl := x.toBitVec.isLt
  unfold fno
  split <;> omega
def fcmp (c : ClassFile.Cond) (x y : Int32) : Bool := match c with
  | .eq => Nat.beq (fno x) (fno y)
  | .ne => !Nat.beq (fno x) (fno y)
  | .lt => Nat.blt (fno x) (fno y)
  | .ge => Nat.ble (fno y) (fno x)
  | .gt => Nat.blt (fno y) (fno x)
  | .le => Nat.ble (fno x) (fno y)
theorem fcmp_eq (c : ClassFile.Cond) (x y : Int32) : fcmp c x y = xcmp c x y := by
  have hx := fno_int x
  have hy := fno_int y
  have e1 : Nat.beq (fno x) (fno y) = decide (x = y) := by
    rw [Bool.eq_iff_iff, Nat.beq_eq, decide_eq_true_eq]
    constructor
    · intro h
      exact Int32.toInt_inj.mp (by omega)
    · intro h
      subst h
      rfl
  have e2 : ∀ a b : Int32, Nat.blt (fno a) (fno b) = decide (a < b) := by
    intro a b
    have ha := fno_int a
    have hb := fno_int b
    rw [Bool.eq_iff_iff, Nat.blt_eq, decide_eq_true_eq, Int32.lt_iff_toInt_lt]
    omega
  have e3 : ∀ a b : Int32, Nat.ble (fno a) (fno b) = decide (a ≤ b) := by
    intro a b
    have ha := fno_int a
    have hb := fno_int b
    rw [Bool.eq_iff_iff, Nat.ble_eq, decide_eq_true_eq, Int32.le_iff_toInt_le]
    omega
  cases c <;> simp only [fcmp, xcmp, e1, e2, e3]
/-- a place of a row by its int: below 2^31, or there is none such -/
def fpl (j : Int32) : Nat := j.toBitVec.toNat
theorem fpl_neg {j : Int32} (h : j < 0) : 2147483648 ≤ fpl j := by
  have h1 : j.toInt < 0 := by
    have := Int32.lt_iff_toInt_lt.mp h
    simpa using this
  have h2 : j.toInt = j.toBitVec.toInt := rfl
  rw [h2, BitVec.toInt_eq_toNat_cond] at h1
  have hl := j.toBitVec.isLt
  unfold fpl
  split at h1 <;> omega
theorem fpl_pos {j : Int32} (h : ¬ j < 0) : fpl j = j.toNatClampNeg := by
  have h1 : ¬ j.toInt < 0 := by
    intro q
    apply h
    rw [Int32.lt_iff_toInt_lt]
    simpa using q
  have h2 : j.toInt = j.toBitVec.toInt := rfl
  have h3 : j.toNatClampNeg = j.toInt.toNat := rfl
  rw [h3, h2]
  rw [h2, BitVec.toInt_eq_toNat_cond] at h1
  rw [BitVec.toInt_eq_toNat_cond]
  have hl := j.toBitVec.isLt
  unfold fpl
  split at h1
  · rename_i hc
    rw [if_pos hc]
    omega
  · omega
noncomputable def farr (M : xM) (a k : Nat) : Option (List Value) := match fnth M a with
  | some o => bif Nat.beq o.1 k then some o.2 else none
  | none => none
theorem farr_eq (M : xM) (a k : Nat) : farr M a k = xarr M a k := by unfold farr xarr; rw [fnth_eq]; rfl
noncomputable def fald (k : Nat) (pc : Nat) (L : xL) (st : List Value) (M : xM) : Option xC := match st with
  | .int j :: .ref a :: r => match farr M a k with
    | some sl => bif Nat.blt (fpl j) 2147483648 then (match fnth sl (fpl j) with
      | some v => some (pc + 1, L, v :: r, M)
      | none => none) else none
    | none => none
  | _ => none
theorem flen_none {α : Type} {l : List α} {n : Nat} (h : xnth l n = none) : l.length ≤ n := by
  rw [xnth_eq] at h
  exact List.getElem?_eq_none_iff.mp h
theorem flen_some {α : Type} {l : List α} {n : Nat} {v : α} (h : xnth l n = some v) : n < l.length := by
  rw [xnth_eq] at h
  exact (List.getElem?_eq_some_iff.mp h).1
theorem xix_no {j : Int32} {n : Nat} (h : j < 0 ∨ n ≤ j.toNatClampNeg) : xix j n = none := by
  unfold xix
  have : (decide (j < 0) || Nat.ble n j.toNatClampNeg) = true := by
    rw [Bool.or_eq_true, decide_eq_true_eq, Nat.ble_eq]
    exact h
  rw [this]
  rfl
theorem xix_yes {j : Int32} {n : Nat} (h : ¬ j < 0) (h2 : j.toNatClampNeg < n) : xix j n = some j.toNatClampNeg := by
  unfold xix
  have : (decide (j < 0) || Nat.ble n j.toNatClampNeg) = false := by
    rw [Bool.or_eq_false_iff]
    refine ⟨decide_eq_false h, ?_⟩
    cases hb : Nat.ble n j.toNatClampNeg with
    | false => rfl
    | true => have := Nat.le_of_ble_eq_true hb; omega
  rw [this]
  rfl
theorem fblt_no {j : Int32} (h : j < 0) : Nat.blt (fpl j) 2147483648 = false := by
  have := fpl_neg h
  cases hb : Nat.blt (fpl j) 2147483648 with
  | false => rfl
  | true => have := Nat.blt_eq.mp hb; omega
theorem fblt_yes {j : Int32} (h : ¬ j < 0) : Nat.blt (fpl j) 2147483648 = true := by
  rw [Nat.blt_eq, fpl_pos h]
  have h3 : j.toNatClampNeg = j.toInt.toNat := rfl
  have := Int32.toInt_lt j
  rw [h3]
  omega
theorem fald_eq (k pc : Nat) (L : xL) (st : List Value) (M : xM) : fald k pc L st M = xald k pc L st M := by
  unfold fald xald
  split
  · rename_i j a r
    dsimp only
    rw [farr_eq]
    cases xarr M a k with
    | none => rfl
    | some sl =>
      dsimp only
      by_cases hj : j < 0
      · rw [fblt_no hj, xix_no (Or.inl hj)]
        rfl
      · rw [fblt_yes hj, fnth_eq, fpl_pos hj]
        simp only [cond_true]
        cases hv : xnth sl j.toNatClampNeg with
        | none => rw [xix_no (Or.inr (flen_none hv))]
        | some v =>
          rw [xix_yes hj (flen_some hv)]
          dsimp only
          rw [hv]
  · rename_i hno
    split
    · exact absurd rfl (hno _ _ _)
    · rfl
noncomputable def fast (k : Nat) (g : Value → Option Value) (pc : Nat) (L : xL) (st : List Value) (M : xM) : Option xC := match st with
  | v :: .int j :: .ref a :: r => match g v with
    | some w => match farr M a k with
      | some sl => bif Nat.blt (fpl j) 2147483648 then (match fnth sl (fpl j) with
        | some _ => some (pc + 1, L, r, fset M a (k, fset sl (fpl j) w))
        | none => none) else none
      | none => none
    | none => none
  | _ => none
theorem fast_eq (k : Nat) (g : Value → Option Value) (pc : Nat) (L : xL) (st : List Value) (M : xM) : fast k g pc L st M = xast k g pc L st M := by
  unfold fast xast
  split
  · rename_i v j a r
    dsimp only
    cases g v with
    | none => rfl
    | some w =>
      dsimp only
      rw [farr_eq]
      cases xarr M a k with
      | none => rfl
      | some sl =>
        dsimp only
        by_cases hj : j < 0
        · rw [fblt_no hj, xix_no (Or.inl hj)]
          rfl
        · rw [fblt_yes hj, fnth_eq, fpl_pos hj]
          simp only [cond_true]
          cases hv : xnth sl j.toNatClampNeg with
          | none => rw [xix_no (Or.inr (flen_none hv))]
          | some v =>
            rw [xix_yes hj (flen_some hv)]
            dsimp only
            rw [fset_eq, fset_eq]
            rfl
  · rename_i hno
    split
    · exact absurd rfl (hno _ _ _ _)
    · rfl
noncomputable def fget (ci k pc : Nat) (L : xL) (st : List Value) (M : xM) : Option xC := match st with
  | .ref a :: r => match farr M a ci with
    | some sl => match fnth sl k with
      | some v => some (pc + 3, L, v :: r, M)
      | none => none
    | none => none
  | _ => none
theorem fget_eq (ci k pc : Nat) (L : xL) (st : List Value) (M : xM) : fget ci k pc L st M = xget ci k pc L st M := by
  unfold fget xget
  split
  · dsimp only
    rw [farr_eq]
    cases xarr M _ ci with
    | none => rfl
    | some sl =>
      dsimp only
      rw [fnth_eq]
      rfl
  · rename_i hno
    split
    · exact absurd rfl (hno _ _)
    · rfl
noncomputable def fput (ci k pc : Nat) (L : xL) (st : List Value) (M : xM) : Option xC := match st with
  | v :: .ref a :: r => bif xfit (xty ci k) v then (match farr M a ci with
    | some sl => (match fnth sl k with
      | some _ => some (pc + 3, L, r, fset M a (ci, fset sl k v))
      | none => none)
    | none => none) else none
  | _ => none
theorem fput_eq (ci k pc : Nat) (L : xL) (st : List Value) (M : xM) : fput ci k pc L st M = xput xty ci k pc L st M := by
  unfold fput xput
  split
  · rename_i v a r
    dsimp only
    cases xfit (xty ci k) v with
    | false => rfl
    | true =>
      simp only [cond_true]
      rw [farr_eq]
      cases xarr M a ci with
      | none => rfl
      | some sl =>
        dsimp only
        rw [fnth_eq]
        cases hv : xnth sl k with
        | none =>
          have := flen_none hv
          have hb : Nat.blt k sl.length = false := by
            cases hb : Nat.blt k sl.length with
            | false => rfl
            | true => have := Nat.blt_eq.mp hb; omega
          rw [hb]
          rfl
        | some w =>
          have := flen_some hv
          rw [Nat.blt_eq.mpr this]
          dsimp only
          rw [fset_eq, fset_eq]
          rfl
  · rename_i hno
    split
    · exact absurd rfl (hno _ _ _)
    · rfl
noncomputable def fl1 (n pc i : Nat) (L : xL) (st : List Value) (M : xM) : Option xC := match ffind L i with
  | some (.int v) => some (pc + n, L, .int v :: st, M)
  | some (.float v) => some (pc + n, L, .float v :: st, M)
  | _ => none
noncomputable def fl2 (n pc i : Nat) (L : xL) (st : List Value) (M : xM) : Option xC := match ffind L i with
  | some (.long v) => some (pc + n, L, .long v :: st, M)
  | some (.double v) => some (pc + n, L, .double v :: st, M)
  | _ => none
noncomputable def fpA (n pc i : Nat) (L : xL) (st : List Value) (M : xM) : Option xC := match ffind L i with
  | some (.ref v) => some (pc + n, L, .ref v :: st, M)
  | some (.retAddr 0) => some (pc + n, L, .retAddr 0 :: st, M)
  | _ => none
noncomputable def fs1 (n pc i : Nat) (L : xL) (st : List Value) (M : xM) : Option xC := match st with
  | .int v :: r => some (pc + n, (i, .int v) :: fdrop1 i L, r, M)
  | .float v :: r => some (pc + n, (i, .float v) :: fdrop1 i L, r, M)
  | _ => none
noncomputable def fs2 (n pc i : Nat) (L : xL) (st : List Value) (M : xM) : Option xC := match st with
  | .long v :: r => some (pc + n, (i, .long v) :: fdrop2 i L, r, M)
  | .double v :: r => some (pc + n, (i, .double v) :: fdrop2 i L, r, M)
  | _ => none
noncomputable def fsA (n pc i : Nat) (L : xL) (st : List Value) (M : xM) : Option xC := match st with
  | .ref v :: r => some (pc + n, (i, .ref v) :: fdrop1 i L, r, M)
  | _ => none
noncomputable def finc (i : Nat) (n : Int) (pc : Nat) (L : xL) (st : List Value) (M : xM) : Option xC := match ffind L i with
  | some (.int v) => some (pc + 3, (i, .int (v + Int32.ofInt n)) :: fdrop1 i L, st, M)
  | _ => none
theorem fl1_eq (n pc i : Nat) (L : xL) (st : List Value) (M : xM) : fl1 n pc i L st M = yl1 n pc i L st M := by unfold fl1 yl1; rw [ffind_eq]; rfl
theorem fl2_eq (n pc i : Nat) (L : xL) (st : List Value) (M : xM) : fl2 n pc i L st M = yl2 n pc i L st M := by unfold fl2 yl2; rw [ffind_eq]; rfl
theorem fpA_eq (n pc i : Nat) (L : xL) (st : List Value) (M : xM) : fpA n pc i L st M = xpA n pc i L st M := by unfold fpA xpA; rw [ffind_eq]; rfl
theorem fs1_eq (n pc i : Nat) (L : xL) (st : List Value) (M : xM) : fs1 n pc i L st M = ys1 n pc i L st M := by unfold fs1 ys1 xst1; rw [fdrop1_eq]; rfl
theorem fs2_eq (n pc i : Nat) (L : xL) (st : List Value) (M : xM) : fs2 n pc i L st M = ys2 n pc i L st M := by unfold fs2 ys2 xst2; rw [fdrop2_eq]; rfl
theorem fsA_eq (n pc i : Nat) (L : xL) (st : List Value) (M : xM) : fsA n pc i L st M = xsA n pc i L st M := by unfold fsA xsA xst1; rw [fdrop1_eq]; rfl
noncomputable def fiald (sa : List Value) (pc : Nat) (L : xL) (st : List Value) (M : xM) : Option xC := match st with
  | .int j :: .retAddr 0 :: r => match ysc sa with
    | some sl => (match xix j sl.length with
      | some i => (match xnth sl i with
        | some v => some (pc + 1, L, v :: r, M)
        | none => none)
      | none => none)
    | none => none
  | _ => fald 20 pc L st M
def fic (c : ClassFile.Cond) (t : Nat) (bx : List (Int × Int)) (pc : Nat) (L : xL) (st : List Value) (M : xM) : Option xC := match st with
  | .int y :: .int x :: r => some (bif fcmp c x y then t else pc + 3, L, r, M)
  | w :: v :: r => match ylt bx v w with
    | some q => match ydec c q.1 q.2.1 q.2.2.1 q.2.2.2 with
      | some b => some (bif b then t else pc + 3, L, r, M)
      | none => none
    | none => none
  | _ => none
def fif (c : ClassFile.Cond) (t : Nat) (bx : List (Int × Int)) (pc : Nat) (L : xL) (st : List Value) (M : xM) : Option xC := match st with
  | .int x :: r => some (bif fcmp c x 0 then t else pc + 3, L, r, M)
  | v :: r => match ylt bx v (.int 0) with
    | some q => match ydec c q.1 q.2.1 q.2.2.1 q.2.2.2 with
      | some b => some (bif b then t else pc + 3, L, r, M)
      | none => none
    | none => none
  | _ => none
noncomputable def fputf (ci k pc : Nat) (L : xL) (st : List Value) (M : xM) : Option xC := match st with
  | .float u :: .ref a :: r => (match xty ci k with
    | .int => (match xarr M a ci with
      | some sl => bif Nat.blt k sl.length then some (pc + 3, L, r, xwr M a ci k sl (.float u)) else none
      | none => none)
    | _ => none)
  | _ => fput ci k pc L st M
noncomputable def ya1F (bx : List (Int × Int)) (sa : List Value) (e : xE) (pc : Nat) (L : xL) (st : List Value) (M : xM) : Option xC := match e.1 with
  | .iaload => fiald sa pc L st M
  | .baload => fald 21 pc L st M
  | .laload => fald 22 pc L st M
  | .iastore => fast 20 ygI pc L st M
  | .bastore => fast 21 ygB pc L st M
  | .lastore => fast 22 ygL pc L st M
  | .iload i => fl1 2 pc i L st M
  | .iload_n i => fl1 1 pc i L st M
  | .lload i => fl2 2 pc i L st M
  | .lload_n i => fl2 1 pc i L st M
  | .aload i => fpA 2 pc i L st M
  | .aload_n i => fpA 1 pc i L st M
  | .istore i => fs1 2 pc i L st M
  | .istore_n i => fs1 1 pc i L st M
  | .lstore i => fs2 2 pc i L st M
  | .lstore_n i => fs2 1 pc i L st M
  | .astore i => fsA 2 pc i L st M
  | .astore_n i => fsA 1 pc i L st M
  | .iinc i n => finc i n pc L st M
  | .if_icmp c _ => fic c e.2.1 bx pc L st M
  | .ifCond c _ => fif c e.2.1 bx pc L st M
  | .getfield _ => fget e.2.1 e.2.2.1 pc L st M
  | .putfield _ => fputf e.2.1 e.2.2.1 pc L st M
  | _ => ya1 xty xdf bx sa e pc L st M
theorem ya1F_eq (bx : List (Int × Int)) (sa : List Value) (e : xE) (pc : Nat) (L : xL) (st : List Value) (M : xM) : ya1F bx sa e pc L st M = ya1 xty xdf bx sa e pc L st M := by
  obtain ⟨ins, ea, eb, ez⟩ := e
  cases ins <;> simp only [ya1F, ya1, x1]
  case iaload =>
    unfold fiald
    split
    · rfl
    · rename_i hno
      rw [fald_eq]
      split
      · exact absurd rfl (hno _ _)
      · rfl
  case baload => exact fald_eq _ _ _ _ _
  case laload => exact fald_eq _ _ _ _ _
  case iastore => exact fast_eq _ _ _ _ _ _
  case bastore => exact fast_eq _ _ _ _ _ _
  case lastore => exact fast_eq _ _ _ _ _ _
  case iload => exact fl1_eq _ _ _ _ _ _
  case iload_n => exact fl1_eq _ _ _ _ _ _
  case lload => exact fl2_eq _ _ _ _ _ _
  case lload_n => exact fl2_eq _ _ _ _ _ _
  case aload => exact fpA_eq _ _ _ _ _ _
  case aload_n => exact fpA_eq _ _ _ _ _ _
  case istore => exact fs1_eq _ _ _ _ _ _
  case istore_n => exact fs1_eq _ _ _ _ _ _
  case lstore => exact fs2_eq _ _ _ _ _ _
  case lstore_n => exact fs2_eq _ _ _ _ _ _
  case astore => exact fsA_eq _ _ _ _ _ _
  case astore_n => exact fsA_eq _ _ _ _ _ _
  case iinc i n => unfold finc; rw [ffind_eq, fdrop1_eq]; rfl
  case if_icmp c o =>
    unfold fic
    split
    · rw [fcmp_eq]
    · rename_i w v r hno
      cases w <;> cases v <;> first | rfl | exact (hno _ _ rfl rfl).elim
    · rename_i h1 h2
      split
      · exact absurd rfl (h2 _ _ _)
      · exact absurd rfl (h2 _ _ _)
      · rfl
  case ifCond c o =>
    unfold fif
    split
    · rw [fcmp_eq]
    · rename_i v r hno
      cases v <;> first | rfl | exact (hno _ rfl).elim
    · rename_i h1 h2
      split
      · exact absurd rfl (h2 _ _)
      · exact absurd rfl (h2 _ _)
      · rfl
  case getfield => exact fget_eq _ _ _ _ _ _
  case putfield =>
    unfold fputf
    split
    · rfl
    · rename_i hno
      rw [fput_eq]
      split
      · exact absurd rfl (hno _ _ _)
      · rfl
