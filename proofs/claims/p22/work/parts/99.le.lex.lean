/-! TOKENS, as places of the text -/
theorem tup_self {α : Type} {f : Nat → Nat → α} {o k : Nat} {v : α} (h : f o k = v) : tup f o k v = f := by
  funext o' k'
  by_cases e : o' = o ∧ k' = k
  · obtain ⟨rfl, rfl⟩ := e
    rw [tup_eq, h]
  · rw [tup_ne e]
theorem tup_tup {α : Type} {f : Nat → Nat → α} {o k : Nat} {v w : α} : tup (tup f o k v) o k w = tup f o k w := by
  funext o' k'
  by_cases e : o' = o ∧ k' = k
  · obtain ⟨rfl, rfl⟩ := e
    rw [tup_eq, tup_eq]
  · rw [tup_ne e, tup_ne e, tup_ne e]
theorem oi_int {p : Nat} (h : p < 2147483648) : (Int32.ofNat p).toInt = p := nI_toInt h
theorem oi_nat {p : Nat} (h : p < 2147483648) : (Int32.ofNat p).toNatClampNeg = p := by
  show (Int32.ofNat p).toInt.toNat = p
  rw [oi_int h]
  omega
theorem oi_suc {p : Nat} (h : p < 2147483647) : Int32.ofNat p + 1 = Int32.ofNat (p + 1) := by
  apply i32_eq
  have e1 : (1 : Int32).toInt = 1 := rfl
  rw [ti_add (by rw [oi_int (by omega), e1]; omega) (by rw [oi_int (by omega), e1]; omega), oi_int (by omega), oi_int (by omega), e1]
  omega
theorem oi_ge {p q : Nat} (hp : p < 2147483648) (hq : q < 2147483648) : xcmp .ge (Int32.ofNat p) (Int32.ofNat q) = decide (q ≤ p) := by
  rw [tc_ge, oi_int hp, oi_int hq]
  exact decide_eq_decide.mpr (by omega)
theorem oi_lt {p q : Nat} (hp : p < 2147483648) (hq : q < 2147483648) : xcmp .lt (Int32.ofNat p) (Int32.ofNat q) = decide (p < q) := by
  rw [tc_lt, oi_int hp, oi_int hq]
  exact decide_eq_decide.mpr (by omega)
/-- behind the blanks -/
def lxS (t : Nat → Int32) (n : Nat) : Nat → Nat → Nat
  | 0, p => p
  | f + 1, p => if p < n ∧ (t p = 32 ∨ t p = 10) then lxS t n f (p + 1) else p
theorem lxS_le {t : Nat → Int32} {n : Nat} : ∀ (f p : Nat), p ≤ n → p ≤ lxS t n f p ∧ lxS t n f p ≤ n
  | 0, p, h => ⟨Nat.le_refl _, h⟩
  | f + 1, p, h => by
    simp only [lxS]
    split
    · rename_i hc
      have := lxS_le (t := t) (n := n) f (p + 1) (by omega)
      omega
    · exact ⟨Nat.le_refl _, h⟩
theorem xeq_t {x y : Int32} (h : xcmp .eq x y = true) : x = y := of_decide_eq_true h
theorem xeq_f {x y : Int32} (h : xcmp .eq x y = false) : x ≠ y := of_decide_eq_false h
theorem xne_t {x y : Int32} (h : xcmp .ne x y = true) : x ≠ y := fun e => by rw [xc_nen e] at h; cases h
theorem xne_f {x y : Int32} (h : xcmp .ne x y = false) : x = y := by
  by_cases e : x = y
  · exact e
  · rw [xc_ne e] at h; cases h
theorem f25_skip {N n : Nat} {t : Nat → Int32} (hn9 : n ≤ 900) : ∀ (k p : Nat) {I : tI} {J : tJ} {Y : tI × tJ}, I 8 1 = Int32.ofNat n → I 8 3 = Int32.ofNat p → p ≤ n → (∀ i, i < n → I 9 i = t i) → f25_8_l8 N k I J = some Y → Y = (tup I 8 3 (Int32.ofNat (lxS t n (n - p) p)), J)
  | 0, _, _, _, _, _, _, _, _, h => by cases h
  | k + 1, p, I, J, Y, h1, h3, hp, ht, h => by
    simp only [f25_8_l8] at h
    have hge : xcmp .ge (I 8 3) (I 8 1) = decide (n ≤ p) := by rw [h1, h3, oi_ge (by omega) (by omega)]
    rw [hge] at h
    by_cases hpn : n ≤ p
    · rw [decide_eq_true hpn, cond_true] at h
      cases h
      have e : n - p = 0 := by omega
      rw [e]
      simp only [lxS]
      rw [tup_self h3]
    · rw [decide_eq_false hpn, cond_false] at h
      have hc : I 9 (I 8 3).toNatClampNeg = t p := by rw [h3, oi_nat (by omega)]; exact ht p (by omega)
      rw [hc] at h
      have e : n - p = (n - (p + 1)) + 1 := by omega
      have go : f25_8_l8 N k (tup I 8 3 (I 8 3 + 1)) J = some Y → (t p = 32 ∨ t p = 10) → Y = (tup I 8 3 (Int32.ofNat (lxS t n (n - p) p)), J) := fun hq hs => by
        have := f25_skip (t := t) hn9 k (p + 1) (I := tup I 8 3 (I 8 3 + 1)) (J := J) (Y := Y) (by rw [tup_ne (by omega)]; exact h1) (by rw [tup_eq, h3, oi_suc (by omega)]) (by omega) (fun i hi => by rw [tup_ne (by omega)]; exact ht i hi) hq
        rw [this, tup_tup, e]
        simp only [lxS]
        rw [if_pos ⟨by omega, hs⟩]
      cases h32 : xcmp .eq (t p) 32 with
      | true =>
        rw [h32, cond_true] at h
        exact go h (Or.inl (xeq_t h32))
      | false =>
        rw [h32, cond_false] at h
        cases h10 : xcmp .ne (t p) 10 with
        | true =>
          rw [h10, cond_true] at h
          cases h
          rw [e]
          simp only [lxS]
          rw [if_neg (fun q => q.2.elim (xeq_f h32) (xne_t h10)), tup_self h3]
        | false =>
          rw [h10, cond_false] at h
          exact go h (Or.inr (xne_f h10))
/-! letters, digits -/
def isL (c : Int32) : Prop := 97 ≤ c.toInt ∧ c.toInt ≤ 122
def isG (c : Int32) : Prop := 48 ≤ c.toInt ∧ c.toInt ≤ 57
def lxW (t : Nat → Int32) (n : Nat) : Nat → Nat → Nat
  | 0, p => p
  | f + 1, p => if p < n ∧ 97 ≤ (t p).toInt ∧ (t p).toInt ≤ 122 then lxW t n f (p + 1) else p
def lxG (t : Nat → Int32) (n : Nat) : Nat → Nat → Nat
  | 0, p => p
  | f + 1, p => if p < n ∧ 48 ≤ (t p).toInt ∧ (t p).toInt ≤ 57 then lxG t n f (p + 1) else p
/-- a word's name by five bits, of its first eight letters -/
def lxN (t : Nat → Int32) (n s : Nat) : Nat → Nat → Int64 → Int64
  | 0, _, v => v
  | f + 1, p, v => if p < n ∧ 97 ≤ (t p).toInt ∧ (t p).toInt ≤ 122 then lxN t n s f (p + 1) (if 8 ≤ p - s then v else v * 32 + (t p - 97 + 1).toInt64) else v
/-- a number of its first four digits -/
def lxV (t : Nat → Int32) (n s : Nat) : Nat → Nat → Int32 → Int32
  | 0, _, v => v
  | f + 1, p, v => if p < n ∧ 48 ≤ (t p).toInt ∧ (t p).toInt ≤ 57 then lxV t n s f (p + 1) (if 4 ≤ p - s then v else v * 10 + (t p - 48)) else v
theorem f26_is {n p : Nat} {t : Nat → Int32} {I : tI} {J : tJ} (hn9 : n ≤ 900) (hp : p ≤ n) (h1 : I 8 1 = Int32.ofNat n) (ht : ∀ i, i < n → I 9 i = t i) : f26_8 I J (Int32.ofNat p) = (if p < n ∧ 97 ≤ (t p).toInt ∧ (t p).toInt ≤ 122 then 1 else 0, I, J) := by
  unfold f26_8
  rw [h1, oi_ge (by omega) (by omega), oi_nat (by omega)]
  by_cases hpn : n ≤ p
  · rw [decide_eq_true hpn, cond_true, if_neg (by omega)]
  · rw [decide_eq_false hpn, cond_false, ht p (by omega)]
    have e97 : (97 : Int32).toInt = 97 := rfl
    have e122 : (122 : Int32).toInt = 122 := rfl
    rw [tc_lt, e97]
    by_cases a : (t p).toInt < 97
    · rw [decide_eq_true a, cond_true, if_neg (by omega)]
    · rw [decide_eq_false a, cond_false, tc_gt, e122]
      by_cases b : 122 < (t p).toInt
      · rw [decide_eq_true b, cond_true, if_neg (by omega)]
      · rw [decide_eq_false b, cond_false, if_pos (by omega)]
theorem f27_is {n p : Nat} {t : Nat → Int32} {I : tI} {J : tJ} (hn9 : n ≤ 900) (hp : p ≤ n) (h1 : I 8 1 = Int32.ofNat n) (ht : ∀ i, i < n → I 9 i = t i) : f27_8 I J (Int32.ofNat p) = (if p < n ∧ 48 ≤ (t p).toInt ∧ (t p).toInt ≤ 57 then 1 else 0, I, J) := by
  unfold f27_8
  rw [h1, oi_ge (by omega) (by omega), oi_nat (by omega)]
  by_cases hpn : n ≤ p
  · rw [decide_eq_true hpn, cond_true, if_neg (by omega)]
  · rw [decide_eq_false hpn, cond_false, ht p (by omega)]
    have e48 : (48 : Int32).toInt = 48 := rfl
    have e57 : (57 : Int32).toInt = 57 := rfl
    rw [tc_lt, e48]
    by_cases a : (t p).toInt < 48
    · rw [decide_eq_true a, cond_true, if_neg (by omega)]
    · rw [decide_eq_false a, cond_false, tc_gt, e57]
      by_cases b : 57 < (t p).toInt
      · rw [decide_eq_true b, cond_true, if_neg (by omega)]
      · rw [decide_eq_false b, cond_false, if_pos (by omega)]
theorem oi_sub_ge {p s : Nat} {c : Int32} {d : Nat} (hc : c.toInt = d) (hs : s ≤ p) (hp : p < 2147483648) : xcmp .ge (Int32.ofNat p - Int32.ofNat s) c = decide (d ≤ p - s) := by
  rw [tc_ge, ti_sub (by rw [oi_int hp, oi_int (by omega)]; omega) (by rw [oi_int hp, oi_int (by omega)]; omega), oi_int hp, oi_int (by omega), hc]
  exact decide_eq_decide.mpr (by omega)
theorem oi_sub_le {p s : Nat} {c : Int32} {d : Nat} (hc : c.toInt = d) (hs : s ≤ p) (hp : p < 2147483648) : xcmp .le (Int32.ofNat p - Int32.ofNat s) c = decide (p - s ≤ d) := by
  rw [tc_le, ti_sub (by rw [oi_int hp, oi_int (by omega)]; omega) (by rw [oi_int hp, oi_int (by omega)]; omega), oi_int hp, oi_int (by omega), hc]
  exact decide_eq_decide.mpr (by omega)
theorem f28_run {N n s : Nat} {t : Nat → Int32} (hn9 : n ≤ 900) : ∀ (k p : Nat) {I : tI} {J : tJ} {Y : tI × tJ}, I 8 1 = Int32.ofNat n → I 8 3 = Int32.ofNat s → I 8 4 = Int32.ofNat p → s ≤ p → p ≤ n → (∀ i, i < n → I 9 i = t i) → f28_8_l5 N k I J = some Y → Y = (tup I 8 4 (Int32.ofNat (lxW t n (n - p) p)), tup J 8 6 (lxN t n s (n - p) p (J 8 6)))
  | 0, _, _, _, _, _, _, _, _, _, _, h => by cases h
  | k + 1, p, I, J, Y, h1, h3, h4, hs, hp, ht, h => by
    simp only [f28_8_l5] at h
    have hge : xcmp .ge (I 8 4) (I 8 1) = decide (n ≤ p) := by rw [h1, h4, oi_ge (by omega) (by omega)]
    rw [hge] at h
    by_cases hpn : n ≤ p
    · rw [decide_eq_true hpn, cond_true] at h
      cases h
      have e : n - p = 0 := by omega
      rw [e]
      simp only [lxW, lxN]
      rw [tup_self h4, tup_self rfl]
    · rw [decide_eq_false hpn, cond_false, h4, f26_is hn9 hp h1 ht] at h
      dsimp only at h
      have e : n - p = (n - (p + 1)) + 1 := by omega
      by_cases hl : p < n ∧ 97 ≤ (t p).toInt ∧ (t p).toInt ≤ 122
      · rw [if_pos hl, show xcmp .eq 1 0 = false from rfl, cond_false, h4, h3, oi_sub_ge (d := 8) rfl hs (by omega), oi_nat (by omega), ht p (by omega), oi_suc (by omega)] at h
        have g1 : (tup I 8 4 (Int32.ofNat (p + 1))) 8 1 = Int32.ofNat n := by rw [tup_ne (by omega)]; exact h1
        have g3 : (tup I 8 4 (Int32.ofNat (p + 1))) 8 3 = Int32.ofNat s := by rw [tup_ne (by omega)]; exact h3
        have g9 : ∀ i, i < n → (tup I 8 4 (Int32.ofNat (p + 1))) 9 i = t i := fun i hi => by rw [tup_ne (by omega)]; exact ht i hi
        by_cases h8 : 8 ≤ p - s
        · rw [decide_eq_true h8, cond_true] at h
          have := f28_run (t := t) hn9 k (p + 1) g1 g3 tup_eq (by omega) (by omega) g9 h
          rw [this, tup_tup, e]
          simp only [lxW, lxN]
          rw [if_pos hl, if_pos hl, if_pos h8]
        · rw [decide_eq_false h8, cond_false] at h
          have := f28_run (t := t) hn9 k (p + 1) g1 g3 tup_eq (by omega) (by omega) g9 h
          rw [this, tup_tup, tup_tup, tup_eq, e]
          simp only [lxW, lxN]
          rw [if_pos hl, if_pos hl, if_neg h8]
      · rw [if_neg hl, show xcmp .eq 0 0 = true from rfl, cond_true] at h
        cases h
        rw [e]
        simp only [lxW, lxN]
        rw [if_neg hl, if_neg hl, tup_self h4, tup_self rfl]
theorem f29_run {N n s : Nat} {t : Nat → Int32} (hn9 : n ≤ 900) : ∀ (k p : Nat) {I : tI} {J : tJ} {Y : tI × tJ}, I 8 1 = Int32.ofNat n → I 8 3 = Int32.ofNat s → I 8 4 = Int32.ofNat p → s ≤ p → p ≤ n → (∀ i, i < n → I 9 i = t i) → f29_8_l0 N k I J = some Y → Y = (tup (tup I 8 7 (lxV t n s (n - p) p (I 8 7))) 8 4 (Int32.ofNat (lxG t n (n - p) p)), J)
  | 0, _, _, _, _, _, _, _, _, _, _, h => by cases h
  | k + 1, p, I, J, Y, h1, h3, h4, hs, hp, ht, h => by
    simp only [f29_8_l0] at h
    have hge : xcmp .ge (I 8 4) (I 8 1) = decide (n ≤ p) := by rw [h1, h4, oi_ge (by omega) (by omega)]
    rw [hge] at h
    have self : ∀ v w, I 8 7 = v → I 8 4 = w → tup (tup I 8 7 v) 8 4 w = I := fun v w a b => by rw [tup_self a, tup_self b]
    by_cases hpn : n ≤ p
    · rw [decide_eq_true hpn, cond_true] at h
      cases h
      have e : n - p = 0 := by omega
      rw [e]
      simp only [lxV, lxG]
      rw [self _ _ rfl h4]
    · rw [decide_eq_false hpn, cond_false, h4, f27_is hn9 hp h1 ht] at h
      dsimp only at h
      have e : n - p = (n - (p + 1)) + 1 := by omega
      by_cases hl : p < n ∧ 48 ≤ (t p).toInt ∧ (t p).toInt ≤ 57
      · rw [if_pos hl, show xcmp .eq 1 0 = false from rfl, cond_false, h4, h3, oi_sub_ge (d := 4) rfl hs (by omega), oi_nat (by omega), ht p (by omega), oi_suc (by omega)] at h
        by_cases h8 : 4 ≤ p - s
        · rw [decide_eq_true h8, cond_true] at h
          have := f29_run (t := t) hn9 k (p + 1) (I := tup I 8 4 (Int32.ofNat (p + 1))) (by rw [tup_ne (by omega)]; exact h1) (by rw [tup_ne (by omega)]; exact h3) tup_eq (by omega) (by omega) (fun i hi => by rw [tup_ne (by omega)]; exact ht i hi) h
          rw [this, e]
          simp only [lxV, lxG]
          rw [if_pos hl, if_pos hl, if_pos h8, tup_ne (by omega : ¬ (8 = 8 ∧ 7 = 4))]
          refine Prod.ext ?_ rfl
          funext o' k'
          dsimp only
          by_cases e4 : o' = 8 ∧ k' = 4
          · obtain ⟨rfl, rfl⟩ := e4
            rw [tup_eq, tup_eq]
          · rw [tup_ne e4, tup_ne e4]
            by_cases e7 : o' = 8 ∧ k' = 7
            · obtain ⟨rfl, rfl⟩ := e7
              rw [tup_eq, tup_eq]
            · rw [tup_ne e7, tup_ne e7, tup_ne e4]
        · rw [decide_eq_false h8, cond_false] at h
          have := f29_run (t := t) hn9 k (p + 1) (I := tup (tup I 8 7 (I 8 7 * 10 + (t p - 48))) 8 4 (Int32.ofNat (p + 1))) (by rw [tup_ne (by omega), tup_ne (by omega)]; exact h1) (by rw [tup_ne (by omega), tup_ne (by omega)]; exact h3) tup_eq (by omega) (by omega) (fun i hi => by rw [tup_ne (by omega), tup_ne (by omega)]; exact ht i hi) h
          rw [this, e]
          simp only [lxV, lxG]
          rw [if_pos hl, if_pos hl, if_neg h8, tup_ne (by omega : ¬ (8 = 8 ∧ 7 = 4)), tup_eq]
          refine Prod.ext ?_ rfl
          funext o' k'
          dsimp only
          by_cases e4 : o' = 8 ∧ k' = 4
          · obtain ⟨rfl, rfl⟩ := e4
            rw [tup_eq, tup_eq]
          · rw [tup_ne e4, tup_ne e4]
            by_cases e7 : o' = 8 ∧ k' = 7
            · obtain ⟨rfl, rfl⟩ := e7
              rw [tup_eq, tup_eq]
            · rw [tup_ne e7, tup_ne e7, tup_ne e4, tup_ne e7]
      · rw [if_neg hl, show xcmp .eq 0 0 = true from rfl, cond_true] at h
        cases h
        rw [e]
        simp only [lxV, lxG]
        rw [if_neg hl, if_neg hl, self _ _ rfl h4]
/-! THE REFERENCE's BYTES -/
theorem and255 (x : Int32) : (x &&& 255).toInt = x.toInt % 256 := by
  have h1 : (x &&& 255).toBitVec.toNat = x.toBitVec.toNat % 256 := by
    rw [Int32.toBitVec_and, BitVec.toNat_and]
    exact Nat.and_two_pow_sub_one_eq_mod x.toBitVec.toNat 8
  have h2 : x.toBitVec.toNat < 4294967296 := x.toBitVec.isLt
  have e1 : (x &&& 255).toInt = (x &&& 255).toBitVec.toInt := rfl
  have e2 : x.toInt = x.toBitVec.toInt := rfl
  rw [e1, e2, BitVec.toInt_eq_toNat_cond, BitVec.toInt_eq_toNat_cond, h1]
  split
  · split
    · omega
    · omega
  · omega
/-- texts are of bytes -/
def byt (t : Nat → Int32) (n : Nat) : Prop := ∀ i, i < n → -128 ≤ (t i).toInt ∧ (t i).toInt ≤ 127
theorem f219_is {n p : Nat} {t : Nat → Int32} {I : tI} {J : tJ} (hn9 : n ≤ 900) (hp : p < 2147483648) (h1 : I 185 11 = Int32.ofNat n) (ht : ∀ i, i < n → I 192 i = t i) : f219_185 I J (Int32.ofNat p) = (if p < n then t p &&& 255 else -1, I, J) := by
  unfold f219_185
  rw [h1, oi_ge hp (by omega), oi_nat hp]
  by_cases hpn : n ≤ p
  · rw [decide_eq_true hpn, cond_true, if_neg (by omega)]
  · rw [decide_eq_false hpn, cond_false, if_pos (by omega), ht p (by omega)]
theorem b_eq {x c : Int32} {d : Nat} (hx : -128 ≤ x.toInt ∧ x.toInt ≤ 127) (hc : c.toInt = d) (hd : d ≤ 127) : xcmp .eq (x &&& 255) c = decide (x = c) := by
  rw [tc_eq, and255, hc]
  refine decide_eq_decide.mpr ⟨fun h => i32_eq (by omega), fun h => ?_⟩
  rw [h, hc]
  omega
theorem r_skip {N n : Nat} {t : Nat → Int32} (hn9 : n ≤ 900) (hb : byt t n) : ∀ (k p : Nat) {I : tI} {J : tJ} {Y : tI × tJ}, I 185 11 = Int32.ofNat n → I 185 14 = Int32.ofNat p → p ≤ n → (∀ i, i < n → I 192 i = t i) → f222_185_l0 N k I J = some Y → Y = (tup I 185 14 (Int32.ofNat (lxS t n (n - p) p)), J)
  | 0, _, _, _, _, _, _, _, _, h => by cases h
  | k + 1, p, I, J, Y, h1, h3, hp, ht, h => by
    simp only [f222_185_l0] at h
    rw [h3, f219_is hn9 (by omega) h1 ht] at h
    dsimp only at h
    by_cases hpn : p < n
    · rw [if_pos hpn, b_eq (d := 32) (hb p hpn) rfl (by omega), h3, f219_is hn9 (by omega) h1 ht] at h
      dsimp only at h
      rw [if_pos hpn, oi_suc (by omega)] at h
      have e : n - p = (n - (p + 1)) + 1 := by omega
      have go : f222_185_l0 N k (tup I 185 14 (Int32.ofNat (p + 1))) J = some Y → (t p = 32 ∨ t p = 10) → Y = (tup I 185 14 (Int32.ofNat (lxS t n (n - p) p)), J) := fun hq hs => by
        have := r_skip (t := t) hn9 hb k (p + 1) (I := tup I 185 14 (Int32.ofNat (p + 1))) (J := J) (Y := Y) (by rw [tup_ne (by omega)]; exact h1) tup_eq (by omega) (fun i hi => by rw [tup_ne (by omega)]; exact ht i hi) hq
        rw [this, tup_tup, e]
        simp only [lxS]
        rw [if_pos ⟨by omega, hs⟩]
      by_cases h32 : t p = 32
      · rw [decide_eq_true h32, cond_true] at h
        exact go h (Or.inl h32)
      · rw [decide_eq_false h32, cond_false] at h
        have hne : xcmp .ne (t p &&& 255) 10 = !decide (t p = 10) := by
          have := b_eq (x := t p) (c := 10) (d := 10) (hb p hpn) rfl (by omega)
          rw [tc_eq] at this
          rw [tc_ne, this]
        rw [hne] at h
        by_cases h10 : t p = 10
        · rw [decide_eq_true h10, Bool.not_true, cond_false, h3, oi_suc (by omega)] at h
          exact go h (Or.inr h10)
        · rw [decide_eq_false h10, Bool.not_false, cond_true] at h
          cases h
          rw [e]
          simp only [lxS]
          rw [if_neg (fun q => q.2.elim h32 h10), tup_self h3]
    · rw [if_neg hpn, show xcmp .eq (-1) 32 = false from rfl, cond_false, h3, f219_is hn9 (by omega) h1 ht] at h
      dsimp only at h
      rw [if_neg hpn, show xcmp .ne (-1) 10 = true from rfl, cond_true] at h
      cases h
      have e : n - p = 0 := by omega
      rw [e]
      simp only [lxS]
      rw [tup_self h3]
theorem f220_is {x : Int32} {I : tI} {J : tJ} : f220 I J x = (if 97 ≤ x.toInt ∧ x.toInt ≤ 122 then 1 else 0, I, J) := by
  unfold f220
  have e97 : (97 : Int32).toInt = 97 := rfl
  have e122 : (122 : Int32).toInt = 122 := rfl
  rw [tc_lt, e97]
  by_cases a : x.toInt < 97
  · rw [decide_eq_true a, cond_true, if_neg (by omega)]
  · rw [decide_eq_false a, cond_false, tc_gt, e122]
    by_cases b : 122 < x.toInt
    · rw [decide_eq_true b, cond_true, if_neg (by omega)]
    · rw [decide_eq_false b, cond_false, if_pos (by omega)]
theorem f221_is {x : Int32} {I : tI} {J : tJ} : f221 I J x = (if 48 ≤ x.toInt ∧ x.toInt ≤ 57 then 1 else 0, I, J) := by
  unfold f221
  have e48 : (48 : Int32).toInt = 48 := rfl
  have e57 : (57 : Int32).toInt = 57 := rfl
  rw [tc_lt, e48]
  by_cases a : x.toInt < 48
  · rw [decide_eq_true a, cond_true, if_neg (by omega)]
  · rw [decide_eq_false a, cond_false, tc_gt, e57]
    by_cases b : 57 < x.toInt
    · rw [decide_eq_true b, cond_true, if_neg (by omega)]
    · rw [decide_eq_false b, cond_false, if_pos (by omega)]
theorem r_word {N n : Nat} {t : Nat → Int32} (hn9 : n ≤ 900) (hb : byt t n) : ∀ (k p : Nat) {I : tI} {J : tJ} {Y : tI × tJ}, I 185 11 = Int32.ofNat n → I 185 14 = Int32.ofNat p → p ≤ n → (∀ i, i < n → I 192 i = t i) → f222_185_l81 N k I J = some Y → Y = (tup I 185 14 (Int32.ofNat (lxW t n (n - p) p)), J)
  | 0, _, _, _, _, _, _, _, _, h => by cases h
  | k + 1, p, I, J, Y, h1, h3, hp, ht, h => by
    simp only [f222_185_l81] at h
    rw [h3, f219_is hn9 (by omega) h1 ht] at h
    dsimp only at h
    rw [f220_is] at h
    dsimp only at h
    by_cases hpn : p < n
    · have e : n - p = (n - (p + 1)) + 1 := by omega
      rw [if_pos hpn, and255] at h
      have hbp := hb p hpn
      by_cases hl : 97 ≤ (t p).toInt ∧ (t p).toInt ≤ 122
      · rw [if_pos (by omega), show xcmp .eq 1 0 = false from rfl, cond_false, h3, oi_suc (by omega)] at h
        have := r_word (t := t) hn9 hb k (p + 1) (I := tup I 185 14 (Int32.ofNat (p + 1))) (J := J) (Y := Y) (by rw [tup_ne (by omega)]; exact h1) tup_eq (by omega) (fun i hi => by rw [tup_ne (by omega)]; exact ht i hi) h
        rw [this, tup_tup, e]
        simp only [lxW]
        rw [if_pos ⟨hpn, hl⟩]
      · rw [if_neg (by omega), show xcmp .eq 0 0 = true from rfl, cond_true] at h
        cases h
        rw [e]
        simp only [lxW]
        rw [if_neg (fun q => hl q.2), tup_self h3]
    · rw [if_neg hpn, show (if 97 ≤ (-1 : Int32).toInt ∧ (-1 : Int32).toInt ≤ 122 then (1 : Int32) else 0) = 0 from rfl, show xcmp .eq 0 0 = true from rfl, cond_true] at h
      cases h
      have e : n - p = 0 := by omega
      rw [e]
      simp only [lxW]
      rw [tup_self h3]
/-- a number as the reference reads it -/
def lxR (t : Nat → Int32) (n : Nat) : Nat → Nat → Int32 → Int32
  | 0, _, v => v
  | f + 1, p, v => if p < n ∧ 48 ≤ (t p).toInt ∧ (t p).toInt ≤ 57 then lxR t n f (p + 1) (if 10 * v + t p - 48 < 100000 then 10 * v + t p - 48 else 100000) else v
theorem b_pos {x : Int32} (h0 : 0 ≤ x.toInt) (h1 : x.toInt ≤ 127) : x &&& 255 = x := i32_eq (by rw [and255]; omega)
theorem r_num {N n : Nat} {t : Nat → Int32} (hn9 : n ≤ 900) (hb : byt t n) : ∀ (k p : Nat) {I : tI} {J : tJ} {Y : tI × tJ}, I 185 11 = Int32.ofNat n → I 185 14 = Int32.ofNat p → p ≤ n → (∀ i, i < n → I 192 i = t i) → f222_185_l128 N k I J = some Y → Y = (tup (tup I 185 15 (lxR t n (n - p) p (I 185 15))) 185 14 (Int32.ofNat (lxG t n (n - p) p)), J)
  | 0, _, _, _, _, _, _, _, _, h => by cases h
  | k + 1, p, I, J, Y, h1, h3, hp, ht, h => by
    simp only [f222_185_l128] at h
    rw [h3, f219_is hn9 (by omega) h1 ht] at h
    dsimp only at h
    rw [f221_is] at h
    dsimp only at h
    have self : ∀ v w, I 185 15 = v → I 185 14 = w → tup (tup I 185 15 v) 185 14 w = I := fun v w a b => by rw [tup_self a, tup_self b]
    by_cases hpn : p < n
    · have e : n - p = (n - (p + 1)) + 1 := by omega
      rw [if_pos hpn, and255] at h
      have hbp := hb p hpn
      by_cases hl : 48 ≤ (t p).toInt ∧ (t p).toInt ≤ 57
      · rw [if_pos (by omega), show xcmp .eq 1 0 = false from rfl, cond_false] at h
        have hf : f219_185 I J (Int32.ofNat p) = (t p &&& 255, I, J) := by rw [f219_is hn9 (by omega) h1 ht, if_pos hpn]
        have hbb : t p &&& 255 = t p := b_pos (by omega) (by omega)
        simp only [hf, hbb, h3] at h
        rw [oi_suc (by omega)] at h
        have := r_num hn9 hb k (p + 1) (I := tup (tup I 185 15 (if 10 * I 185 15 + t p - 48 < 100000 then 10 * I 185 15 + t p - 48 else 100000)) 185 14 (Int32.ofNat (p + 1))) (J := J) (Y := Y) (by rw [tup_ne (by omega), tup_ne (by omega)]; exact h1) tup_eq (by omega) (fun i hi => by rw [tup_ne (by omega), tup_ne (by omega)]; exact ht i hi) h
        rw [this, e]
        simp only [lxR, lxG]
        have hcl : p < n ∧ 48 ≤ (t p).toInt ∧ (t p).toInt ≤ 57 := ⟨hpn, hl⟩
        rw [if_pos hcl, if_pos hcl, tup_ne (by omega : ¬ (185 = 185 ∧ 15 = 14)), tup_eq]
        refine Prod.ext ?_ rfl
        funext o' k'
        dsimp only
        by_cases e4 : o' = 185 ∧ k' = 14
        · obtain ⟨rfl, rfl⟩ := e4
          rw [tup_eq, tup_eq]
        · rw [tup_ne e4, tup_ne e4]
          by_cases e7 : o' = 185 ∧ k' = 15
          · obtain ⟨rfl, rfl⟩ := e7
            rw [tup_eq, tup_eq]
          · rw [tup_ne e7, tup_ne e7, tup_ne e4, tup_ne e7]
      · rw [if_neg (by omega), show xcmp .eq 0 0 = true from rfl, cond_true] at h
        cases h
        rw [e]
        simp only [lxR, lxG]
        rw [if_neg (fun q => hl q.2), if_neg (fun q => hl q.2), self _ _ rfl h3]
    · rw [if_neg hpn, show (if 48 ≤ (-1 : Int32).toInt ∧ (-1 : Int32).toInt ≤ 57 then (1 : Int32) else 0) = 0 from rfl, show xcmp .eq 0 0 = true from rfl, cond_true] at h
      cases h
      have e : n - p = 0 := by omega
      rw [e]
      simp only [lxR, lxG]
      rw [self _ _ rfl h3]
theorem lxG_ge {t : Nat → Int32} {n : Nat} : ∀ (f p : Nat), p ≤ lxG t n f p
  | 0, _ => Nat.le_refl _
  | f + 1, p => by
    simp only [lxG]
    split
    · have := lxG_ge (t := t) (n := n) f (p + 1)
      omega
    · exact Nat.le_refl _
/-- of at most four digits both read the same number -/
theorem lxR_V {t : Nat → Int32} {n s : Nat} : ∀ (f p : Nat) (v : Int32), s ≤ p → 0 ≤ v.toInt → v.toInt < ((10 ^ (p - s) : Nat) : Int) → lxG t n f p ≤ s + 4 → lxR t n f p v = lxV t n s f p v
  | 0, _, _, _, _, _, _ => rfl
  | f + 1, p, v, hs, h0, h1, hg => by
    simp only [lxG] at hg
    simp only [lxR, lxV]
    by_cases hl : p < n ∧ 48 ≤ (t p).toInt ∧ (t p).toInt ≤ 57
    · rw [if_pos hl] at hg ⊢
      rw [if_pos hl]
      have hge := lxG_ge (t := t) (n := n) f (p + 1)
      have hk : p - s ≤ 3 := by omega
      have hx : 10 ^ (p - s) ≤ 10 ^ 3 := Nat.pow_le_pow_right (by omega) hk
      have e10 : 10 ^ (p + 1 - s) = 10 * 10 ^ (p - s) := by
        rw [show p + 1 - s = (p - s) + 1 by omega, Nat.pow_succ, Nat.mul_comm]
      generalize 10 ^ (p - s) = X at h1 hx e10
      have a10 : (10 : Int32).toInt = 10 := rfl
      have a48 : (48 : Int32).toInt = 48 := rfl
      have m1 : (10 * v).toInt = 10 * v.toInt := by rw [ti_mul (by rw [a10]; omega) (by rw [a10]; omega), a10]
      have m2 : (v * 10).toInt = v.toInt * 10 := by rw [ti_mul (by rw [a10]; omega) (by rw [a10]; omega), a10]
      have s1 : (10 * v + t p).toInt = 10 * v.toInt + (t p).toInt := by rw [ti_add (by rw [m1]; omega) (by rw [m1]; omega), m1]
      have s2 : (10 * v + t p - 48).toInt = 10 * v.toInt + (t p).toInt - 48 := by rw [ti_sub (by rw [s1, a48]; omega) (by rw [s1, a48]; omega), s1, a48]
      have s3 : (t p - 48).toInt = (t p).toInt - 48 := by rw [ti_sub (by rw [a48]; omega) (by rw [a48]; omega), a48]
      have s4 : (v * 10 + (t p - 48)).toInt = v.toInt * 10 + ((t p).toInt - 48) := by rw [ti_add (by rw [m2, s3]; omega) (by rw [m2, s3]; omega), m2, s3]
      have hlt : 10 * v + t p - 48 < 100000 := Int32.lt_iff_toInt_lt.mpr (by rw [s2]; show _ < (100000 : Int); omega)
      rw [if_pos hlt, if_neg (by omega : ¬ 4 ≤ p - s), show 10 * v + t p - 48 = v * 10 + (t p - 48) from i32_eq (by rw [s2, s4]; omega)]
      refine lxR_V f (p + 1) _ (by omega) (by rw [s4]; omega) (by rw [s4, e10]; omega) hg
    · rw [if_neg hl, if_neg hl]
/-! WORDS: which of a row of words stands at a place -/
/-- the letters w stand from p on, to just e -/
def mtW (t : Nat → Int32) (p e : Nat) (w : List Int32) : Prop := p + w.length = e ∧ ∀ i, i < w.length → t (p + i) = w.getD i 0
def flW : List (List Int32) → List Int32
  | [] => []
  | w :: ws => w ++ 32 :: flW ws
theorem mtW_inj {t : Nat → Int32} {p e : Nat} {w w' : List Int32} (h : mtW t p e w) (h' : mtW t p e w') : w = w' := by
  have hl : w.length = w'.length := by have := h.1; have := h'.1; omega
  refine List.ext_getElem hl (fun i h1 h2 => ?_)
  have a := h.2 i h1
  have b := h'.2 i h2
  rw [a] at b
  simpa [List.getD, h1, h2] using b
/-! THE CLASS's SEARCH OF A WORD -/
/-- along the row's letters: number, place, all alike so far -/
def scC (t : Nat → Int32) (s e : Nat) : List Int32 → Int32 → Nat → Bool → Int32
  | [], _, _, _ => -1
  | c :: cs, num, p, same => if c = 32 then (if same = true ∧ p = e then num else scC t s e cs (num + 1) s true) else scC t s e cs num (p + 1) (same && (decide (p < e) && decide (t p = c)))
theorem xs0_at {i : Nat} {c : Int32} {cs : List Int32} (h : xsB0.drop i = c :: cs) : (xsB.getD 0 []).getD i 0 = c ∧ i < 162 ∧ xsB0.drop (i + 1) = cs := by
  have hl : i < xsB0.length := by
    rcases Nat.lt_or_ge i xsB0.length with hh | hh
    · exact hh
    · rw [List.drop_eq_nil_of_le hh] at h
      cases h
  have h2 := List.drop_eq_getElem_cons hl
  rw [h2] at h
  have e1 := (List.cons.inj h).1
  have e2 := (List.cons.inj h).2
  refine ⟨?_, hl, e2⟩
  show xsB0.getD i 0 = c
  rw [List.getD_eq_getElem?_getD, List.getElem?_eq_getElem hl]
  exact e1
def bi (b : Bool) : Int32 := if b = true then 1 else 0
theorem f31_scan {N n s e : Nat} {t : Nat → Int32} (hn9 : n ≤ 900) (hse : e ≤ n) : ∀ (k : Nat) (cs : List Int32) (i p : Nat) (num : Int32) (same : Bool) {I : tI} {J : tJ} {Y : Nat × Int32 × Int32 × Int32 × Int32 × tI × tJ}, I 8 3 = Int32.ofNat s → I 8 4 = Int32.ofNat e → (∀ i, i < n → I 9 i = t i) → xsB0.drop i = cs → i ≤ 162 → p ≤ 900 + i → s ≤ 900 → f31_8_l12 N k I J num (Int32.ofNat p) (bi same) (Int32.ofNat i) = some Y → Y.2.2.2.2.2 = (I, J) ∧ (if Y.1 = 0 then (-1 : Int32) else Y.2.1) = scC t s e cs num p same
  | 0, _, _, _, _, _, _, _, _, _, _, _, _, _, _, _, h => by cases h
  | k + 1, cs, i, p, num, same, I, J, Y, h3, h4, ht, hd, hi, hp, hs9, h => by
    simp only [f31_8_l12] at h
    rw [show xcmp .ge (Int32.ofNat i) 162 = decide (162 ≤ i) from oi_ge (q := 162) (by omega) (by omega), oi_nat (by omega), oi_suc (by omega), oi_suc (by omega)] at h
    match cs, hd with
    | [], hd =>
      have hl : 162 ≤ i := by
        have h0 := List.drop_eq_nil_iff.mp hd
        exact h0
      rw [decide_eq_true hl, cond_true] at h
      cases h
      exact ⟨rfl, by rw [if_pos rfl]; rfl⟩
    | c :: cs, hd =>
      obtain ⟨g1, g2, g3⟩ := xs0_at hd
      rw [decide_eq_false (by omega : ¬ 162 ≤ i), cond_false, g1] at h
      simp only [scC]
      by_cases hc : c = 32
      · rw [xc_eq hc, cond_true] at h
        rw [if_pos hc]
        have again : f31_8_l12 N k I J (num + 1) (I 8 3) 1 (Int32.ofNat (i + 1)) = some Y → Y.2.2.2.2.2 = (I, J) ∧ (if Y.1 = 0 then (-1 : Int32) else Y.2.1) = scC t s e cs (num + 1) s true := fun hq => by
          rw [h3] at hq
          exact f31_scan hn9 hse k cs (i + 1) s (num + 1) true h3 h4 ht g3 (by omega) (by omega) hs9 hq
        cases same with
        | false =>
          rw [show xcmp .eq (bi false) 0 = true from rfl, cond_true] at h
          rw [if_neg (show ¬ (false = true ∧ p = e) from fun q => by cases q.1)]
          exact again h
        | true =>
          rw [show xcmp .eq (bi true) 0 = false from rfl, cond_false, h4] at h
          by_cases hpe : p = e
          · rw [xc_nen (by rw [hpe]), cond_false] at h
            cases h
            rw [if_pos (show true = true ∧ p = e from ⟨rfl, hpe⟩)]
            exact ⟨rfl, rfl⟩
          · have hne : Int32.ofNat p ≠ Int32.ofNat e := fun q => by
              have := congrArg Int32.toInt q
              rw [oi_int (by omega), oi_int (by omega)] at this
              omega
            rw [xc_ne hne, cond_true] at h
            rw [if_neg (show ¬ (true = true ∧ p = e) from fun q => hpe q.2)]
            exact again h
      · rw [xc_eqn hc, cond_false] at h
        rw [if_neg hc]
        cases same with
        | false =>
          rw [show xcmp .eq (bi false) 0 = true from rfl, cond_true] at h
          rw [Bool.false_and]
          exact f31_scan hn9 hse k cs (i + 1) (p + 1) num false h3 h4 ht g3 (by omega) (by omega) hs9 h
        | true =>
          rw [show xcmp .eq (bi true) 0 = false from rfl, cond_false, h4, oi_ge (by omega) (by omega)] at h
          by_cases hpe : e ≤ p
          · rw [decide_eq_true hpe, cond_true] at h
            rw [decide_eq_false (by omega : ¬ p < e)]
            exact f31_scan hn9 hse k cs (i + 1) (p + 1) num false h3 h4 ht g3 (by omega) (by omega) hs9 h
          · rw [decide_eq_false hpe, cond_false, oi_nat (by omega), ht p (by omega)] at h
            rw [decide_eq_true (by omega : p < e)]
            by_cases htc : t p = c
            · rw [xc_nen htc, cond_false] at h
              rw [decide_eq_true htc]
              exact f31_scan hn9 hse k cs (i + 1) (p + 1) num true h3 h4 ht g3 (by omega) (by omega) hs9 h
            · rw [xc_ne htc, cond_true] at h
              rw [decide_eq_false htc]
              exact f31_scan hn9 hse k cs (i + 1) (p + 1) num false h3 h4 ht g3 (by omega) (by omega) hs9 h
theorem mtW_nil {t : Nat → Int32} {p e : Nat} : mtW t p e [] ↔ p = e := ⟨fun h => h.1, fun h => ⟨h, fun i hi => absurd hi (by simp)⟩⟩
theorem mtW_cons {t : Nat → Int32} {p e : Nat} {c : Int32} {w : List Int32} : mtW t p e (c :: w) ↔ (p < e ∧ t p = c) ∧ mtW t (p + 1) e w := by
  refine ⟨fun h => ?_, fun h => ?_⟩
  · have h1 : p + (w.length + 1) = e := h.1
    refine ⟨⟨by omega, ?_⟩, ⟨by omega, fun i hi => ?_⟩⟩
    · have := h.2 0 (by simp)
      simpa using this
    · have := h.2 (i + 1) (by simpa using hi)
      rw [show p + (i + 1) = p + 1 + i by omega] at this
      simpa using this
  · obtain ⟨⟨h1, h2⟩, h3⟩ := h
    have h4 : p + 1 + w.length = e := h3.1
    refine ⟨by simp only [List.length_cons]; omega, fun i hi => ?_⟩
    match i with
    | 0 => simpa using h2
    | i + 1 =>
      have := h3.2 i (by simpa using hi)
      rw [show p + (i + 1) = p + 1 + i by omega]
      simpa using this
theorem scC_word {t : Nat → Int32} {s e : Nat} {rest : List Int32} : ∀ (w : List Int32) (num : Int32) (p : Nat) (same : Bool), (∀ c ∈ w, c ≠ 32) → ((same = true ∧ mtW t p e w) → scC t s e (w ++ 32 :: rest) num p same = num) ∧ (¬ (same = true ∧ mtW t p e w) → scC t s e (w ++ 32 :: rest) num p same = scC t s e rest (num + 1) s true)
  | [], num, p, same, _ => by
    simp only [List.nil_append, scC, if_true]
    rw [mtW_nil]
    exact ⟨fun h => if_pos h, fun h => if_neg h⟩
  | c :: w, num, p, same, hw => by
    have hc : c ≠ 32 := hw c List.mem_cons_self
    have ih := scC_word (t := t) (s := s) (e := e) (rest := rest) w num (p + 1) (same && (decide (p < e) && decide (t p = c))) (fun c' h' => hw c' (List.mem_cons_of_mem _ h'))
    simp only [List.cons_append, scC, if_neg hc]
    rw [mtW_cons]
    have e1 : ((same && (decide (p < e) && decide (t p = c))) = true ∧ mtW t (p + 1) e w) ↔ (same = true ∧ (p < e ∧ t p = c) ∧ mtW t (p + 1) e w) := by
      simp only [Bool.and_eq_true, decide_eq_true_eq, and_assoc]
    rw [e1] at ih
    exact ih
theorem scC_words {t : Nat → Int32} {s e : Nat} : ∀ (ws : List (List Int32)) (m : Nat), (∀ w ∈ ws, ∀ c ∈ w, c ≠ 32) → m + ws.length < 100000 → (∀ j w, ws[j]? = some w → mtW t s e w → (∀ j' w', j' < j → ws[j']? = some w' → ¬ mtW t s e w') → scC t s e (flW ws) (Int32.ofNat m) s true = Int32.ofNat (m + j)) ∧ ((∀ w ∈ ws, ¬ mtW t s e w) → scC t s e (flW ws) (Int32.ofNat m) s true = -1)
  | [], m, _, _ => ⟨fun j w h => by simp at h, fun _ => rfl⟩
  | w0 :: ws, m, hw, hl => by
    have ih := scC_words (t := t) (s := s) (e := e) ws (m + 1) (fun w h => hw w (List.mem_cons_of_mem _ h)) (by simp only [List.length_cons] at hl; omega)
    have h0 := scC_word (t := t) (s := s) (e := e) (rest := flW ws) w0 (Int32.ofNat m) s true (hw w0 List.mem_cons_self)
    have hs : Int32.ofNat m + 1 = Int32.ofNat (m + 1) := oi_suc (by simp only [List.length_cons] at hl; omega)
    rw [hs] at h0
    refine ⟨fun j w hj hm hn => ?_, fun hn => ?_⟩
    · match j with
      | 0 =>
        simp only [List.getElem?_cons_zero, Option.some.injEq] at hj
        subst hj
        exact h0.1 ⟨rfl, hm⟩
      | j + 1 =>
        simp only [List.getElem?_cons_succ] at hj
        have hne : ¬ mtW t s e w0 := hn 0 w0 (by omega) rfl
        show scC t s e (w0 ++ 32 :: flW ws) _ _ _ = _
        rw [h0.2 (fun q => hne q.2), ih.1 j w hj hm (fun j' w' hl' hj' => hn (j' + 1) w' (by omega) (by simpa using hj'))]
        rw [show m + 1 + j = m + (j + 1) by omega]
    · show scC t s e (w0 ++ 32 :: flW ws) _ _ _ = _
      rw [h0.2 (fun q => hn w0 List.mem_cons_self q.2), ih.2 (fun w h => hn w (List.mem_cons_of_mem _ h))]
/-! THE REFERENCE's SEARCH OF A WORD -/
theorem xs1_at {i : Nat} {c : Int32} {cs : List Int32} (h : xsB1.drop i = c :: cs) : (xsB.getD 1 []).getD i 0 = c ∧ i < 163 ∧ xsB1.drop (i + 1) = cs := by
  have hl : i < xsB1.length := by
    rcases Nat.lt_or_ge i xsB1.length with hh | hh
    · exact hh
    · rw [List.drop_eq_nil_of_le hh] at h
      cases h
  have h2 := List.drop_eq_getElem_cons hl
  rw [h2] at h
  have e1 := (List.cons.inj h).1
  have e2 := (List.cons.inj h).2
  refine ⟨?_, hl, e2⟩
  show xsB1.getD i 0 = c
  rw [List.getD_eq_getElem?_getD, List.getElem?_eq_getElem hl]
  exact e1
theorem r_sp {N : Nat} {rest : List Int32} : ∀ (f : Nat) (w : List Int32) (k : Nat) {I : tI} {J : tJ} {x2 x3 : Int32} {Y : Int32 × Int32 × Int32 × tI × tJ}, (∀ c ∈ w, c ≠ 32) → xsB1.drop k = w ++ 32 :: rest → f224_185_1002_l25 N f I J x2 x3 (Int32.ofNat k) = some Y → Y = (x2, x3, Int32.ofNat (k + w.length), I, J) ∧ xsB1.drop (k + w.length + 1) = rest
  | 0, _, _, _, _, _, _, _, _, _, h => by cases h
  | f + 1, [], k, I, J, x2, x3, Y, hw, hd, h => by
    obtain ⟨g1, g2, g3⟩ := xs1_at hd
    simp only [f224_185_1002_l25] at h
    rw [oi_nat (by omega), g1, show xcmp .eq 32 32 = true from rfl, cond_true] at h
    cases h
    exact ⟨rfl, g3⟩
  | f + 1, c :: w, k, I, J, x2, x3, Y, hw, hd, h => by
    obtain ⟨g1, g2, g3⟩ := xs1_at hd
    simp only [f224_185_1002_l25] at h
    rw [oi_nat (by omega), g1, xc_eqn (hw c List.mem_cons_self), cond_false, oi_suc (by omega)] at h
    have := r_sp f w (k + 1) (fun c' h' => hw c' (List.mem_cons_of_mem _ h')) g3 h
    rw [show k + (c :: w).length = k + 1 + w.length by simp only [List.length_cons]; omega]
    exact this
theorem b_ne {x c : Int32} {d : Nat} (hx : -128 ≤ x.toInt ∧ x.toInt ≤ 127) (hc : c.toInt = d) (hd : d ≤ 127) : xcmp .ne c (x &&& 255) = !decide (x = c) := by
  rw [tc_ne, and255, hc]
  congr 1
  refine decide_eq_decide.mpr ⟨fun h => i32_eq (by omega), fun h => ?_⟩
  rw [h, hc]
  omega
/-- letters -/
def ltW (w : List Int32) : Prop := ∀ c ∈ w, 97 ≤ c.toInt ∧ c.toInt ≤ 122
theorem r_cmp {N n s k0 m : Nat} {t : Nat → Int32} {rest : List Int32} (hn9 : n ≤ 900) (hb : byt t n) (hs : s ≤ n) : ∀ (f : Nat) (w : List Int32) (i : Nat) (b : Bool) {I : tI} {J : tJ} {x2 : Int32} {Y : Int32 × Int32 × Int32 × Int32 × Int32 × tI × tJ}, I 185 11 = Int32.ofNat n → I 185 13 = Int32.ofNat s → (∀ i, i < n → I 192 i = t i) → ltW w → xsB1.drop (k0 + i) = w ++ 32 :: rest → i + w.length = m → (b = true → s + i + w.length ≤ n) → f224_185_1002_l68 N f I J x2 (Int32.ofNat k0) (Int32.ofNat (k0 + m)) (bi b) (Int32.ofNat (k0 + i)) = some Y → ∃ (r : Bool) (x6 : Int32), Y = (x2, Int32.ofNat k0, Int32.ofNat (k0 + m), bi r, x6, I, J) ∧ (r = true ↔ b = true ∧ mtW t (s + i) (s + m) w)
  | 0, _, _, _, _, _, _, _, _, _, _, _, _, _, _, h => by cases h
  | f + 1, w, i, b, I, J, x2, Y, h1, h13, ht, hw, hd, hm, hbn, h => by
    have hk : k0 + i < 163 := by
      cases w with
      | nil => exact (xs1_at hd).2.1
      | cons c w => exact (xs1_at hd).2.1
    have hk2 : k0 + m < 163 := by
      have := congrArg List.length hd
      rw [List.length_drop, List.length_append, List.length_cons, show xsB1.length = 163 from rfl] at this
      omega
    simp only [f224_185_1002_l68] at h
    rw [oi_ge (by omega) (by omega)] at h
    by_cases hge : k0 + m ≤ k0 + i
    · rw [decide_eq_true hge, cond_true] at h
      cases h
      have e : w = [] := List.length_eq_zero_iff.mp (by omega)
      subst e
      refine ⟨b, _, rfl, ?_⟩
      rw [mtW_nil]
      exact ⟨fun q => ⟨q, by omega⟩, fun q => q.1⟩
    · rw [decide_eq_false hge, cond_false] at h
      cases b with
      | false =>
        rw [show xcmp .eq (bi false) 0 = true from rfl, cond_true] at h
        cases h
        exact ⟨false, _, rfl, ⟨fun q => (by cases q), fun q => (by cases q.1)⟩⟩
      | true =>
        rw [show xcmp .eq (bi true) 0 = false from rfl, cond_false] at h
        cases w with
        | nil => exact absurd hge (by simp only [List.length_nil] at hm; omega)
        | cons c w =>
          obtain ⟨g1, g2, g3⟩ := xs1_at hd
          simp only [List.length_cons] at hm hbn
          have hbn := hbn trivial
          have ea : I 185 13 + Int32.ofNat (k0 + i) - Int32.ofNat k0 = Int32.ofNat (s + i) := by
            rw [h13]
            apply i32_eq
            have e1 : (Int32.ofNat s + Int32.ofNat (k0 + i)).toInt = (s : Int) + (k0 + i : Nat) := by
              rw [ti_add (by rw [oi_int (by omega), oi_int (by omega)]; omega) (by rw [oi_int (by omega), oi_int (by omega)]; omega), oi_int (by omega), oi_int (by omega)]
            rw [ti_sub (by rw [e1, oi_int (by omega)]; omega) (by rw [e1, oi_int (by omega)]; omega), e1, oi_int (by omega), oi_int (by omega)]
            omega
          rw [ea, f219_is hn9 (by omega) h1 ht] at h
          dsimp only at h
          have hlt := hw c List.mem_cons_self
          rw [if_pos (by omega : s + i < n), oi_nat (by omega), g1, b_ne (d := c.toInt.toNat) (hb _ (by omega)) (by omega) (by omega), oi_suc (by omega)] at h
          rw [mtW_cons]
          have hw' : ltW w := fun c' h' => hw c' (List.mem_cons_of_mem _ h')
          by_cases htc : t (s + i) = c
          · rw [decide_eq_true htc, Bool.not_true, cond_false] at h
            obtain ⟨r, x6, e1, e2⟩ := r_cmp (m := m) hn9 hb hs f w (i + 1) true h1 h13 ht hw' (by rw [← Nat.add_assoc]; exact g3) (by omega) (fun _ => by omega) (by rw [← Nat.add_assoc]; exact h)
            refine ⟨r, x6, e1, ?_⟩
            rw [e2, show s + (i + 1) = s + i + 1 by omega]
            exact ⟨fun q => ⟨rfl, ⟨by omega, htc⟩, q.2⟩, fun q => ⟨rfl, q.2.2⟩⟩
          · rw [decide_eq_false htc, Bool.not_false, cond_true] at h
            obtain ⟨r, x6, e1, e2⟩ := r_cmp (m := m) hn9 hb hs f w (i + 1) false h1 h13 ht hw' (by rw [← Nat.add_assoc]; exact g3) (by omega) (fun q => by cases q) (by rw [← Nat.add_assoc]; exact h)
            refine ⟨r, x6, e1, ?_⟩
            rw [e2]
            exact ⟨fun q => (by cases q.1), fun q => absurd q.2.1.2 htc⟩
theorem r_words {N n s e : Nat} {t : Nat → Int32} (hn9 : n ≤ 900) (hb : byt t n) (hse : s ≤ e) (hen : e ≤ n) : ∀ (f : Nat) (ws : List (List Int32)) (m k : Nat) {I : tI} {J : tJ} {Y : Nat × Int32 × Int32 × tI × tJ}, I 185 11 = Int32.ofNat n → I 185 13 = Int32.ofNat s → I 185 14 = Int32.ofNat e → (∀ i, i < n → I 192 i = t i) → (∀ w ∈ ws, ltW w) → xsB1.drop k = flW ws → k ≤ 163 → m ≤ k → f224_185_1002_l14 N f I J (Int32.ofNat m) (Int32.ofNat k) = some Y → Y.2.2.2 = (I, J) ∧ (if Y.1 = 0 then (-1 : Int32) else Y.2.1) = scC t s e (flW ws) (Int32.ofNat m) s true
  | 0, _, _, _, _, _, _, _, _, _, _, _, _, _, _, h => by cases h
  | f + 1, ws, m, k, I, J, Y, h1, h13, h14, ht, hw, hd, hk, hm, h => by
    simp only [f224_185_1002_l14] at h
    rw [show xcmp .ge (Int32.ofNat k) 163 = decide (163 ≤ k) from oi_ge (q := 163) (by omega) (by omega)] at h
    cases ws with
    | nil =>
      have hl : 163 ≤ k := List.drop_eq_nil_iff.mp hd
      rw [decide_eq_true hl, cond_true] at h
      cases h
      exact ⟨rfl, by rw [if_pos rfl]; rfl⟩
    | cons w ws =>
      have hd : xsB1.drop k = w ++ 32 :: flW ws := hd
      have hlen := congrArg List.length hd
      rw [List.length_drop, List.length_append, List.length_cons, show xsB1.length = 163 from rfl] at hlen
      have hww : ltW w := hw w List.mem_cons_self
      have hw32 : ∀ c ∈ w, c ≠ 32 := fun c hc q => by
        have := hww c hc
        rw [q] at this
        exact absurd this.1 (by decide)
      rw [decide_eq_false (by omega : ¬ 163 ≤ k), cond_false] at h
      cases hc3 : f224_185_1002_l25 N N I J (Int32.ofNat m) (Int32.ofNat k) (Int32.ofNat k) with
      | none => rw [hc3] at h; cases h
      | some Y3 =>
        obtain ⟨e3, e4⟩ := r_sp N w k hw32 hd hc3
        subst e3
        rw [hc3] at h
        dsimp only at h
        rw [h13, h14] at h
        have el : (Int32.ofNat (k + w.length) - Int32.ofNat k).toInt = w.length := by
          rw [ti_sub (by rw [oi_int (by omega), oi_int (by omega)]; omega) (by rw [oi_int (by omega), oi_int (by omega)]; omega), oi_int (by omega), oi_int (by omega)]
          omega
        have ee : (Int32.ofNat e - Int32.ofNat s).toInt = ((e - s : Nat) : Int) := by
          rw [ti_sub (by rw [oi_int (by omega), oi_int (by omega)]; omega) (by rw [oi_int (by omega), oi_int (by omega)]; omega), oi_int (by omega), oi_int (by omega)]
          omega
        rw [tc_ne, el, ee] at h
        have hsw := scC_word (t := t) (s := s) (e := e) (rest := flW ws) w (Int32.ofNat m) s true hw32
        show _ ∧ _ = scC t s e (w ++ 32 :: flW ws) _ _ _
        have next : ∀ (y : Int32), f224_185_1002_l14 N f I J (Int32.ofNat m + 1) (Int32.ofNat (k + w.length) + 1) = some Y → ¬ mtW t s e w → Y.2.2.2 = (I, J) ∧ (if Y.1 = 0 then (-1 : Int32) else Y.2.1) = scC t s e (w ++ 32 :: flW ws) (Int32.ofNat m) s true := fun y hq hne => by
          rw [oi_suc (by omega), oi_suc (by omega)] at hq
          rw [hsw.2 (fun q => hne q.2), oi_suc (by omega)]
          exact r_words hn9 hb hse hen f ws (m + 1) (k + w.length + 1) h1 h13 h14 ht (fun w' h' => hw w' (List.mem_cons_of_mem _ h')) e4 (by omega) (by omega) hq
        by_cases hle : w.length = e - s
        · rw [decide_eq_true (by omega : (w.length : Int) = ((e - s : Nat) : Int)), Bool.not_true, cond_false] at h
          cases hc5 : f224_185_1002_l68 N N I J (Int32.ofNat m) (Int32.ofNat k) (Int32.ofNat (k + w.length)) 1 (Int32.ofNat k) with
          | none => rw [hc5] at h; cases h
          | some Y5 =>
            obtain ⟨r, x6, e5, e6⟩ := r_cmp (k0 := k) (m := w.length) hn9 hb (by omega) N w 0 true h1 h13 ht hww hd (by omega) (fun _ => by omega) hc5
            subst e5
            rw [hc5] at h
            dsimp only at h
            rw [Nat.add_zero, show s + w.length = e by omega] at e6
            cases r with
            | false =>
              rw [show xcmp .eq (bi false) 0 = true from rfl, cond_true] at h
              exact next 0 h (fun q => by have := e6.mpr ⟨rfl, q⟩; cases this)
            | true =>
              rw [show xcmp .eq (bi true) 0 = false from rfl, cond_false] at h
              cases h
              rw [hsw.1 (e6.mp rfl)]
              exact ⟨rfl, rfl⟩
        · rw [decide_eq_false (by omega : ¬ (w.length : Int) = ((e - s : Nat) : Int)), Bool.not_false, cond_true] at h
          cases hc5 : f224_185_1002_l68 N N I J (Int32.ofNat m) (Int32.ofNat k) (Int32.ofNat (k + w.length)) 0 (Int32.ofNat k) with
          | none => rw [hc5] at h; cases h
          | some Y5 =>
            obtain ⟨r, x6, e5, e6⟩ := r_cmp (k0 := k) (m := w.length) hn9 hb (by omega) N w 0 false h1 h13 ht hww hd (by omega) (fun q => by cases q) hc5
            subst e5
            rw [hc5] at h
            dsimp only at h
            cases r with
            | true => exact absurd (e6.mp rfl).1 (by decide)
            | false =>
              rw [show xcmp .eq (bi false) 0 = true from rfl, cond_true] at h
              exact next 0 h (fun q => hle (by have := q.1; omega))
def wsC : List (List Int32) := [[115, 99, 101, 110, 101], [98, 121], [112, 114, 105, 99, 101], [114, 105, 115, 101, 115], [119, 97, 108, 108], [112, 101, 114, 115, 111, 110], [97, 116], [99, 111, 109, 101, 115], [108, 101, 97, 118, 101, 115], [103, 111, 101, 115], [115, 105, 103, 104, 116], [111, 102], [119, 105, 116, 104], [101, 109, 112, 116, 121], [98, 117, 121, 101, 114], [99, 111, 105, 110, 115], [101, 97, 115, 116], [115, 111, 117, 116, 104], [119, 101, 115, 116], [110, 111, 114, 116, 104], [114, 101, 115, 116], [98, 117, 121], [115, 107, 105, 112], [103, 105, 118, 101], [97, 110, 121], [119, 104, 101, 110], [115, 104, 111, 119, 115], [116, 104, 101, 114, 101], [108, 111, 111, 112], [101, 110, 100], [115, 116, 111, 112]]
def wsR : List (List Int32) := [[101, 97, 115, 116], [115, 111, 117, 116, 104], [119, 101, 115, 116], [110, 111, 114, 116, 104], [114, 101, 115, 116], [115, 99, 101, 110, 101], [112, 114, 105, 99, 101], [119, 97, 108, 108], [112, 101, 114, 115, 111, 110], [115, 105, 103, 104, 116], [98, 117, 121, 101, 114], [98, 121], [114, 105, 115, 101, 115], [97, 116], [99, 111, 109, 101, 115], [108, 101, 97, 118, 101, 115], [103, 111, 101, 115], [111, 102], [119, 105, 116, 104], [101, 109, 112, 116, 121], [99, 111, 105, 110, 115], [98, 117, 121], [115, 107, 105, 112], [103, 105, 118, 101], [97, 110, 121], [119, 104, 101, 110], [108, 111, 111, 112], [101, 110, 100], [115, 116, 111, 112], [115, 104, 111, 119, 115], [116, 104, 101, 114, 101]]
/-- the class's number of a word of the reference's -/
def wpi : List Nat := [16, 17, 18, 19, 20, 0, 2, 4, 5, 10, 14, 1, 3, 6, 7, 8, 9, 11, 12, 13, 15, 21, 22, 23, 24, 25, 28, 29, 30, 26, 27]
theorem wsC_fl : xsB0 = flW wsC := by decide +kernel
theorem wsR_fl : xsB1.drop 1 = flW wsR := by decide +kernel
theorem wsC_lt : ∀ w ∈ wsC, ∀ c ∈ w, 97 ≤ c.toInt ∧ c.toInt ≤ 122 := by decide +kernel
theorem wsR_lt : ∀ w ∈ wsR, ltW w := by
  have : ∀ w ∈ wsR, ∀ c ∈ w, 97 ≤ c.toInt ∧ c.toInt ≤ 122 := by decide +kernel
  exact this
theorem wpi_ok : (List.range 31).all (fun j => decide (wsR[j]? = wsC[wpi.getD j 0]?) && decide (wpi.getD j 0 < 31)) = true := by decide +kernel
theorem wsC_nd : wsC.Nodup := by decide +kernel
theorem wsR_nd : wsR.Nodup := by decide +kernel
theorem nd_at {l : List (List Int32)} (h : l.Nodup) {i j : Nat} {w : List Int32} (hi : l[i]? = some w) (hj : l[j]? = some w) : i = j := by
  obtain ⟨a1, a2⟩ := List.getElem?_eq_some_iff.mp hi
  obtain ⟨b1, b2⟩ := List.getElem?_eq_some_iff.mp hj
  rcases Nat.lt_trichotomy i j with hlt | e | hlt
  · exact absurd (a2.trans b2.symm) ((List.pairwise_iff_getElem.mp h) i j a1 b1 hlt)
  · exact e
  · exact absurd (b2.trans a2.symm) ((List.pairwise_iff_getElem.mp h) j i b1 a1 hlt)
/-- both numbers of the word that stands there -/
theorem word_rel {t : Nat → Int32} {s e : Nat} : (scC t s e (flW wsR) 0 s true = -1 ∧ scC t s e (flW wsC) 0 s true = -1) ∨ ∃ j, j < 31 ∧ scC t s e (flW wsR) 0 s true = Int32.ofNat j ∧ scC t s e (flW wsC) 0 s true = Int32.ofNat (wpi.getD j 0) := by
  have n32 : ∀ ws : List (List Int32), (∀ w ∈ ws, ∀ c ∈ w, 97 ≤ c.toInt ∧ c.toInt ≤ 122) → ∀ w ∈ ws, ∀ c ∈ w, c ≠ 32 := fun ws h w hw c hc q => by
    have := h w hw c hc
    rw [q] at this
    exact absurd this.1 (by decide)
  have hR := scC_words (t := t) (s := s) (e := e) wsR 0 (n32 _ wsR_lt) (by decide)
  have hC := scC_words (t := t) (s := s) (e := e) wsC 0 (n32 _ wsC_lt) (by decide)
  by_cases hm : ∃ w ∈ wsR, mtW t s e w
  · obtain ⟨w, hw, hmt⟩ := hm
    obtain ⟨j, hj⟩ := List.getElem?_of_mem hw
    have hj31 : j < 31 := (List.getElem?_eq_some_iff.mp hj).1
    have hp := List.all_eq_true.mp wpi_ok j (List.mem_range.mpr hj31)
    simp only [Bool.and_eq_true, decide_eq_true_eq] at hp
    have hjc : wsC[wpi.getD j 0]? = some w := by rw [← hp.1]; exact hj
    have aR := hR.1 j w hj hmt (fun j' w' hl hj' hm' => by
      have := mtW_inj hm' hmt
      subst this
      have := nd_at wsR_nd hj' hj
      omega)
    have aC := hC.1 (wpi.getD j 0) w hjc hmt (fun j' w' hl hj' hm' => by
      have := mtW_inj hm' hmt
      subst this
      have := nd_at wsC_nd hj' hjc
      omega)
    rw [Nat.zero_add] at aR aC
    exact Or.inr ⟨j, hj31, aR, aC⟩
  · have hnR : ∀ w ∈ wsR, ¬ mtW t s e w := fun w hw h => hm ⟨w, hw, h⟩
    refine Or.inl ⟨hR.2 hnR, hC.2 (fun w hw h => ?_)⟩
    obtain ⟨i, hi⟩ := List.getElem?_of_mem hw
    have hi31 : i < 31 := (List.getElem?_eq_some_iff.mp hi).1
    have hex : (List.range 31).all (fun i => wsR.contains (wsC.getD i [])) = true := by decide +kernel
    have := List.all_eq_true.mp hex i (List.mem_range.mpr hi31)
    have e1 : wsC.getD i [] = w := by rw [List.getD_eq_getElem?_getD, hi]; rfl
    rw [e1] at this
    exact hnR w (List.contains_iff_mem.mp this) h
