/-! WHAT THE NUMBERS SAY -/
theorem oi_int {p : Nat} (h : p < 2147483648) : (Int32.ofNat p).toInt = p := nI_toInt h
theorem oi_nat {p : Nat} (h : p < 2147483648) : (Int32.ofNat p).toNatClampNeg = p := by
  show (Int32.ofNat p).toInt.toNat = p
  rw [oi_int h]
  omega
theorem oi_suc {p : Nat} (h : p < 2147483647) : Int32.ofNat p + 1 = Int32.ofNat (p + 1) := by
  apply i32_eq
  have e1 : (1 : Int32).toInt = 1 := rfl
  rw [ti_add (by rw [oi_int (by omega), e1]; omega) (by rw [oi_int (by omega), e1]; omega), oi_int (by omega), oi_int (by omega), e1]
  omega
theorem oi_ge {p q : Nat} (hp : p < 2147483648) (hq : q < 2147483648) : xcmp .ge (Int32.ofNat p) (Int32.ofNat q) = decide (q ≤ p) := by
  rw [tc_ge, oi_int hp, oi_int hq]
  exact decide_eq_decide.mpr (by omega)
theorem oi_lt {p q : Nat} (hp : p < 2147483648) (hq : q < 2147483648) : xcmp .lt (Int32.ofNat p) (Int32.ofNat q) = decide (p < q) := by
  rw [tc_lt, oi_int hp, oi_int hq]
  exact decide_eq_decide.mpr (by omega)
theorem oi_add {a b : Nat} : Int32.ofNat a + Int32.ofNat b = Int32.ofNat (a + b) := (Int32.ofNat_add a b).symm
theorem oi_mul {a b : Nat} : Int32.ofNat a * Int32.ofNat b = Int32.ofNat (a * b) := (Int32.ofNat_mul a b).symm
theorem oi_sub1 {a : Nat} (h : a < 2147483648) : (Int32.ofNat a - 1).toInt = (a : Int) - 1 := by
  have e1 : (1 : Int32).toInt = 1 := rfl
  rw [ti_sub (by rw [oi_int h, e1]; omega) (by rw [oi_int h, e1]; omega), oi_int h, e1]
theorem oi_m1 {a : Nat} (ha : a < 2147483648) : Int32.ofNat a ≠ -1 := fun h => by
  have := congrArg Int32.toInt h
  rw [oi_int ha, show (-1 : Int32).toInt = -1 from rfl] at this
  omega
theorem f127_is {I : tI} {J : tJ} {a b c : Int32} : f127 I J a b c = (if b.toInt ≤ a.toInt ∧ a.toInt ≤ c.toInt then 1 else 0, I, J) := by
  unfold f127
  rw [tc_lt]
  by_cases h : a.toInt < b.toInt
  · rw [decide_eq_true h, cond_true, if_neg (by omega)]
  · rw [decide_eq_false h, cond_false, tc_gt]
    by_cases h2 : c.toInt < a.toInt
    · rw [decide_eq_true h2, cond_true, if_neg (by omega)]
    · rw [decide_eq_false h2, cond_false, if_pos (by omega)]
theorem n10 : xcmp .ne (1 : Int32) 0 = true := rfl
theorem n00 : xcmp .ne (0 : Int32) 0 = false := rfl
