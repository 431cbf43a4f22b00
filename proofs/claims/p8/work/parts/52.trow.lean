/-! ROWS OVER TYPED MEMORY, and over ints as integers -/
theorem ti_add {x y : Int32} (h1 : -2147483648 ≤ x.toInt + y.toInt) (h2 : x.toInt + y.toInt ≤ 2147483647) : (x + y).toInt = x.toInt + y.toInt := by
  rw [Int32.toInt_add]
  exact Int.bmod_eq_of_le (by omega) (by omega)
theorem ti_sub {x y : Int32} (h1 : -2147483648 ≤ x.toInt - y.toInt) (h2 : x.toInt - y.toInt ≤ 2147483647) : (x - y).toInt = x.toInt - y.toInt := by
  rw [Int32.toInt_sub]
  exact Int.bmod_eq_of_le (by omega) (by omega)
theorem ti_mul {x y : Int32} (h1 : -2147483648 ≤ x.toInt * y.toInt) (h2 : x.toInt * y.toInt ≤ 2147483647) : (x * y).toInt = x.toInt * y.toInt := by
  rw [Int32.toInt_mul]
  exact Int.bmod_eq_of_le (by omega) (by omega)
theorem ti_bd (x : Int32) : -2147483648 ≤ x.toInt ∧ x.toInt ≤ 2147483647 := ⟨Int32.le_toInt x, Int32.toInt_le x⟩
theorem tc_eq (x y : Int32) : xcmp .eq x y = decide (x.toInt = y.toInt) := by
  show decide (x = y) = _
  exact decide_eq_decide.mpr Int32.toInt_inj.symm
theorem tc_ne (x y : Int32) : xcmp .ne x y = !decide (x.toInt = y.toInt) := by
  show (!decide (x = y)) = _
  rw [decide_eq_decide.mpr (Int32.toInt_inj (x := x) (y := y)).symm]
theorem tc_lt (x y : Int32) : xcmp .lt x y = decide (x.toInt < y.toInt) := decide_eq_decide.mpr Int32.lt_iff_toInt_lt
theorem tc_ge (x y : Int32) : xcmp .ge x y = decide (y.toInt ≤ x.toInt) := decide_eq_decide.mpr Int32.le_iff_toInt_le
theorem tc_gt (x y : Int32) : xcmp .gt x y = decide (y.toInt < x.toInt) := decide_eq_decide.mpr Int32.lt_iff_toInt_lt
theorem tc_le (x y : Int32) : xcmp .le x y = decide (x.toInt ≤ y.toInt) := decide_eq_decide.mpr Int32.le_iff_toInt_le
section EV
variable {sc : List Int32} {pc : Nat} {L : xL} {st : List Value} {M : xM}
theorem ev_ic {c : ClassFile.Cond} {off : Int} {t : Nat} {x y : Int32} (h : xcmp c x y = true) : x1 xty xdf sc (.if_icmp c off, t, 0, 0) pc L (.int y :: .int x :: st) M = some (t, L, st, M) := by
  show some (bif xcmp c x y then t else pc + 3, L, st, M) = _
  rw [h]
  rfl
theorem ev_icn {c : ClassFile.Cond} {off : Int} {t : Nat} {x y : Int32} (h : xcmp c x y = false) : x1 xty xdf sc (.if_icmp c off, t, 0, 0) pc L (.int y :: .int x :: st) M = some (pc + 3, L, st, M) := by
  show some (bif xcmp c x y then t else pc + 3, L, st, M) = _
  rw [h]
  rfl
theorem ev_if {c : ClassFile.Cond} {off : Int} {t : Nat} {x : Int32} (h : xcmp c x 0 = true) : x1 xty xdf sc (.ifCond c off, t, 0, 0) pc L (.int x :: st) M = some (t, L, st, M) := by
  show some (bif xcmp c x 0 then t else pc + 3, L, st, M) = _
  rw [h]
  rfl
theorem ev_ifn {c : ClassFile.Cond} {off : Int} {t : Nat} {x : Int32} (h : xcmp c x 0 = false) : x1 xty xdf sc (.ifCond c off, t, 0, 0) pc L (.int x :: st) M = some (pc + 3, L, st, M) := by
  show some (bif xcmp c x 0 then t else pc + 3, L, st, M) = _
  rw [h]
  rfl
theorem ev_ld2 {i : Nat} {v : Int32} (h : xfind L i = some (.int v)) : x1 xty xdf sc (.iload i, 0, 0, 0) pc L st M = some (pc + 2, L, .int v :: st, M) := by
  show xpI 2 pc i L st M = _
  unfold xpI
  rw [h]
theorem ev_ld1 {i : Fin 4} {v : Int32} (h : xfind L i = some (.int v)) : x1 xty xdf sc (.iload_n i, 0, 0, 0) pc L st M = some (pc + 1, L, .int v :: st, M) := by
  show xpI 1 pc i L st M = _
  unfold xpI
  rw [h]
theorem xc_eq {x y : Int32} (h : x = y) : xcmp .eq x y = true := decide_eq_true h
theorem xc_eqn {x y : Int32} (h : x ≠ y) : xcmp .eq x y = false := decide_eq_false h
theorem xc_ne {x y : Int32} (h : x ≠ y) : xcmp .ne x y = true := by
  show (!decide (x = y)) = true
  rw [decide_eq_false h]
  rfl
theorem xc_nen {x y : Int32} (h : x = y) : xcmp .ne x y = false := by
  show (!decide (x = y)) = false
  rw [decide_eq_true h]
  rfl
end EV
section TW
variable {sc : List Int32} {r : xR} {pc : Nat} {L : xL} {st : List Value} {Q : Option Value → xM → Prop} {B : xM} {I : tI} {J : tJ}
theorem te_geti {o c k i : Nat} {z : Int} (he : xat r.1 pc = some (.getfield i, c, k, z)) (h : tSlot B o c k 0 = true) (kk : sw sc r (pc + 3) L (.int (I o k) :: st) (tMem B I J) Q) : sw sc r pc L (.ref o :: st) (tMem B I J) Q := by
  obtain ⟨sl, h1, -, h3, -⟩ := tput_i (I := I) (J := J) (v := 0) h
  refine sw_0 he rfl ?_ kk
  show xget c k pc L (.ref o :: st) (tMem B I J) = _
  unfold xget
  dsimp only
  rw [h1]
  dsimp only
  rw [h3]
theorem te_getl {o c k i : Nat} {z : Int} (he : xat r.1 pc = some (.getfield i, c, k, z)) (h : tSlot B o c k 1 = true) (kk : sw sc r (pc + 3) L (.long (J o k) :: st) (tMem B I J) Q) : sw sc r pc L (.ref o :: st) (tMem B I J) Q := by
  obtain ⟨sl, h1, -, h3, -⟩ := tput_l (I := I) (J := J) (v := 0) h
  refine sw_0 he rfl ?_ kk
  show xget c k pc L (.ref o :: st) (tMem B I J) = _
  unfold xget
  dsimp only
  rw [h1]
  dsimp only
  rw [h3]
theorem te_getr {o c k i a : Nat} {z : Int} (he : xat r.1 pc = some (.getfield i, c, k, z)) (h : tRef B o c k a = true) (kk : sw sc r (pc + 3) L (.ref a :: st) (tMem B I J) Q) : sw sc r pc L (.ref o :: st) (tMem B I J) Q := by
  obtain ⟨sl, h1, h3⟩ := tget_r (I := I) (J := J) h
  refine sw_0 he rfl ?_ kk
  show xget c k pc L (.ref o :: st) (tMem B I J) = _
  unfold xget
  dsimp only
  rw [h1]
  dsimp only
  rw [h3]
theorem te_puti {o c k i : Nat} {z : Int} {v : Int32} (he : xat r.1 pc = some (.putfield i, c, k, z)) (h : tSlot B o c k 0 = true) (hf : xfit (xty c k) (.int v) = true) (kk : sw sc r (pc + 3) L st (tMem B (tup I o k v) J) Q) : sw sc r pc L (.int v :: .ref o :: st) (tMem B I J) Q := by
  obtain ⟨sl, h1, h2, h3, h4⟩ := tput_i (I := I) (J := J) (v := v) h
  refine sw_0 he rfl ?_ kk
  show xput xty c k pc L (.int v :: .ref o :: st) (tMem B I J) = _
  unfold xput
  dsimp only
  rw [hf]
  simp only [cond_true]
  rw [h1]
  dsimp only
  rw [Nat.blt_eq.mpr h2]
  simp only [cond_true]
  rw [h4]
theorem te_putl {o c k i : Nat} {z : Int} {v : Int64} (he : xat r.1 pc = some (.putfield i, c, k, z)) (h : tSlot B o c k 1 = true) (hf : xfit (xty c k) (.long v) = true) (kk : sw sc r (pc + 3) L st (tMem B I (tup J o k v)) Q) : sw sc r pc L (.long v :: .ref o :: st) (tMem B I J) Q := by
  obtain ⟨sl, h1, h2, h3, h4⟩ := tput_l (I := I) (J := J) (v := v) h
  refine sw_0 he rfl ?_ kk
  show xput xty c k pc L (.long v :: .ref o :: st) (tMem B I J) = _
  unfold xput
  dsimp only
  rw [hf]
  simp only [cond_true]
  rw [h1]
  dsimp only
  rw [Nat.blt_eq.mpr h2]
  simp only [cond_true]
  rw [h4]
theorem ti_pos {j : Int32} (h : 0 ≤ j.toInt) : ¬ j < 0 := fun q => by
  have := Int32.lt_iff_toInt_lt.mp q
  have e : (0 : Int32).toInt = 0 := rfl
  omega
theorem te_iald {o n : Nat} {j : Int32} (he : xat r.1 pc = some (.iaload, 0, 0, 0)) (h : tArr B o 20 n 0 = true) (h0 : 0 ≤ j.toInt) (h1 : j.toInt < n) (kk : sw sc r (pc + 1) L (.int (I o j.toNatClampNeg) :: st) (tMem B I J) Q) : sw sc r pc L (.int j :: .ref o :: st) (tMem B I J) Q := by
  have hj : j.toNatClampNeg < n := by show j.toInt.toNat < n; omega
  obtain ⟨sl, g1, g2, g3, -⟩ := tput_i (I := I) (J := J) (v := 0) (tarr_slot h hj)
  refine sw_0 he rfl (?_ : xiald sc pc L (.int j :: .ref o :: st) (tMem B I J) = _) kk
  show xald 20 pc L (.int j :: .ref o :: st) (tMem B I J) = _
  unfold xald
  dsimp only
  rw [g1]
  dsimp only
  rw [xix_yes (ti_pos h0) g2]
  dsimp only
  rw [g3]
theorem te_bald {o n : Nat} {j : Int32} (he : xat r.1 pc = some (.baload, 0, 0, 0)) (h : tArr B o 21 n 0 = true) (h0 : 0 ≤ j.toInt) (h1 : j.toInt < n) (kk : sw sc r (pc + 1) L (.int (I o j.toNatClampNeg) :: st) (tMem B I J) Q) : sw sc r pc L (.int j :: .ref o :: st) (tMem B I J) Q := by
  have hj : j.toNatClampNeg < n := by show j.toInt.toNat < n; omega
  obtain ⟨sl, g1, g2, g3, -⟩ := tput_i (I := I) (J := J) (v := 0) (tarr_slot h hj)
  refine sw_0 he rfl (?_ : xald 21 pc L (.int j :: .ref o :: st) (tMem B I J) = _) kk
  unfold xald
  dsimp only
  rw [g1]
  dsimp only
  rw [xix_yes (ti_pos h0) g2]
  dsimp only
  rw [g3]
theorem te_lald {o n : Nat} {j : Int32} (he : xat r.1 pc = some (.laload, 0, 0, 0)) (h : tArr B o 22 n 1 = true) (h0 : 0 ≤ j.toInt) (h1 : j.toInt < n) (kk : sw sc r (pc + 1) L (.long (J o j.toNatClampNeg) :: st) (tMem B I J) Q) : sw sc r pc L (.int j :: .ref o :: st) (tMem B I J) Q := by
  have hj : j.toNatClampNeg < n := by show j.toInt.toNat < n; omega
  obtain ⟨sl, g1, g2, g3, -⟩ := tput_l (I := I) (J := J) (v := 0) (tarr_slot h hj)
  refine sw_0 he rfl (?_ : xald 22 pc L (.int j :: .ref o :: st) (tMem B I J) = _) kk
  unfold xald
  dsimp only
  rw [g1]
  dsimp only
  rw [xix_yes (ti_pos h0) g2]
  dsimp only
  rw [g3]
theorem te_iast {o n : Nat} {j v : Int32} (he : xat r.1 pc = some (.iastore, 0, 0, 0)) (h : tArr B o 20 n 0 = true) (h0 : 0 ≤ j.toInt) (h1 : j.toInt < n) (kk : sw sc r (pc + 1) L st (tMem B (tup I o j.toNatClampNeg v) J) Q) : sw sc r pc L (.int v :: .int j :: .ref o :: st) (tMem B I J) Q := by
  have hj : j.toNatClampNeg < n := by show j.toInt.toNat < n; omega
  obtain ⟨sl, g1, g2, g3, g4⟩ := tput_i (I := I) (J := J) (v := v) (tarr_slot h hj)
  refine sw_0 he rfl (?_ : xast 20 xgI pc L (.int v :: .int j :: .ref o :: st) (tMem B I J) = _) kk
  unfold xast xgI
  dsimp only
  rw [g1]
  dsimp only
  rw [xix_yes (ti_pos h0) g2]
  dsimp only
  rw [g4]
theorem te_bast {o n : Nat} {j v : Int32} (he : xat r.1 pc = some (.bastore, 0, 0, 0)) (h : tArr B o 21 n 0 = true) (h0 : 0 ≤ j.toInt) (h1 : j.toInt < n) (kk : sw sc r (pc + 1) L st (tMem B (tup I o j.toNatClampNeg v.toInt8.toInt32) J) Q) : sw sc r pc L (.int v :: .int j :: .ref o :: st) (tMem B I J) Q := by
  have hj : j.toNatClampNeg < n := by show j.toInt.toNat < n; omega
  obtain ⟨sl, g1, g2, g3, g4⟩ := tput_i (I := I) (J := J) (v := v.toInt8.toInt32) (tarr_slot h hj)
  refine sw_0 he rfl (?_ : xast 21 xgB pc L (.int v :: .int j :: .ref o :: st) (tMem B I J) = _) kk
  unfold xast xgB
  dsimp only
  rw [g1]
  dsimp only
  rw [xix_yes (ti_pos h0) g2]
  dsimp only
  rw [g4]
theorem te_last {o n : Nat} {j : Int32} {v : Int64} (he : xat r.1 pc = some (.lastore, 0, 0, 0)) (h : tArr B o 22 n 1 = true) (h0 : 0 ≤ j.toInt) (h1 : j.toInt < n) (kk : sw sc r (pc + 1) L st (tMem B I (tup J o j.toNatClampNeg v)) Q) : sw sc r pc L (.long v :: .int j :: .ref o :: st) (tMem B I J) Q := by
  have hj : j.toNatClampNeg < n := by show j.toInt.toNat < n; omega
  obtain ⟨sl, g1, g2, g3, g4⟩ := tput_l (I := I) (J := J) (v := v) (tarr_slot h hj)
  refine sw_0 he rfl (?_ : xast 22 xgL pc L (.long v :: .int j :: .ref o :: st) (tMem B I J) = _) kk
  unfold xast xgL
  dsimp only
  rw [g1]
  dsimp only
  rw [xix_yes (ti_pos h0) g2]
  dsimp only
  rw [g4]
/-- a branch: both ways, with what is known there -/
theorem te_ic {c : ClassFile.Cond} {off : Int} {t : Nat} {x y : Int32} (he : xat r.1 pc = some (.if_icmp c off, t, 0, 0)) {M : xM} (k1 : xcmp c x y = true → sw sc r t L st M Q) (k2 : xcmp c x y = false → sw sc r (pc + 3) L st M Q) : sw sc r pc L (.int y :: .int x :: st) M Q := by
  cases h : xcmp c x y with
  | true => exact sw_0 he rfl (ev_ic h) (k1 h)
  | false => exact sw_0 he rfl (ev_icn h) (k2 h)
theorem te_if {c : ClassFile.Cond} {off : Int} {t : Nat} {x : Int32} (he : xat r.1 pc = some (.ifCond c off, t, 0, 0)) {M : xM} (k1 : xcmp c x 0 = true → sw sc r t L st M Q) (k2 : xcmp c x 0 = false → sw sc r (pc + 3) L st M Q) : sw sc r pc L (.int x :: st) M Q := by
  cases h : xcmp c x 0 with
  | true => exact sw_0 he rfl (ev_if h) (k1 h)
  | false => exact sw_0 he rfl (ev_ifn h) (k2 h)
end TW
