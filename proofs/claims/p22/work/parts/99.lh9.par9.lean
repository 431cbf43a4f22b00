/-! HOW BOTH BEGIN TO READ, AND TAKE, A SCENE -/
theorem f355_59_l5_run {N : Nat} {x : Int32} : ∀ (k p : Nat) {I : tI} {J : tJ} {Y : Int32 × Int32 × Int32 × tI × tJ}, p ≤ 121 → f355_59_l5 N k I J x (Int32.ofNat p) 121 = some Y → Y.2.2.2.2 = J ∧ (∀ i, p ≤ i → i < 121 → Y.2.2.2.1 59 (i) = x) ∧ ∀ o i, ¬ (o = 59 ∧ p ≤ i ∧ i < 121) → Y.2.2.2.1 o i = I o i
  | 0, _, _, _, _, _, h => by cases h
  | k + 1, p, I, J, Y, hp, h => by
    simp only [f355_59_l5] at h
    rw [show xcmp .ge (Int32.ofNat p) 121 = decide (121 ≤ p) from oi_ge (q := 121) (by omega) (by omega)] at h
    by_cases hpe : 121 ≤ p
    · rw [decide_eq_true hpe, cond_true] at h
      cases h
      exact ⟨rfl, fun i a b => absurd a (by omega), fun _ _ _ => rfl⟩
    · rw [decide_eq_false hpe, cond_false, oi_nat (by omega), oi_suc (by omega)] at h
      obtain ⟨a, b, c⟩ := f355_59_l5_run k (p + 1) (by omega) h
      refine ⟨a, fun i h1 h2 => ?_, fun o i hn => ?_⟩
      · by_cases e : i = p
        · rw [c 59 _ (by omega), e, tup_eq]
        · rw [b i (by omega) h2]
      · rw [c o i (by omega), tup_ne (by omega)]
theorem f226_185_l26_run {N : Nat} {n : Nat} (hn : n ≤ 900) : ∀ (k p : Nat) {I : tI} {J : tJ} {Y : Int32 × Int32 × tI × tJ}, p ≤ n → f226_185_l26 N k I J (Int32.ofNat n) (Int32.ofNat p) = some Y → Y.2.2.2 = J ∧ (∀ i, p ≤ i → i < n → Y.2.2.1 192 (i) = (I 191 i).toInt8.toInt32) ∧ ∀ o i, ¬ (o = 192 ∧ p ≤ i ∧ i < n) → Y.2.2.1 o i = I o i
  | 0, _, _, _, _, _, h => by cases h
  | k + 1, p, I, J, Y, hp, h => by
    simp only [f226_185_l26] at h
    rw [oi_ge (by omega) (by omega)] at h
    by_cases hpe : n ≤ p
    · rw [decide_eq_true hpe, cond_true] at h
      cases h
      exact ⟨rfl, fun i a b => absurd a (by omega), fun _ _ _ => rfl⟩
    · rw [decide_eq_false hpe, cond_false, oi_nat (by omega), oi_suc (by omega)] at h
      obtain ⟨a, b, c⟩ := f226_185_l26_run hn k (p + 1) (by omega) h
      refine ⟨a, fun i h1 h2 => ?_, fun o i hn => ?_⟩
      · by_cases e : i = p
        · rw [c 192 _ (by omega), e, tup_eq]
        · rw [b i (by omega) h2, tup_ne (by omega)]
      · rw [c o i (by omega), tup_ne (by omega)]
theorem f200_185_l2_run {N : Nat} {m : Nat} (hm : m ≤ 3720) : ∀ (k p : Nat) {I : tI} {J : tJ} {Y : Int32 × Int32 × tI × tJ}, p ≤ 620 → f200_185_l2 N k I J (Int32.ofNat m) (Int32.ofNat p) = some Y → Y.2.2.2 = J ∧ (∀ i, p ≤ i → i < 620 → Y.2.2.1 186 (m + i) = 0) ∧ ∀ o i, ¬ (o = 186 ∧ m + p ≤ i ∧ i < m + 620) → Y.2.2.1 o i = I o i
  | 0, _, _, _, _, _, h => by cases h
  | k + 1, p, I, J, Y, hp, h => by
    simp only [f200_185_l2] at h
    rw [show xcmp .ge (Int32.ofNat p) 620 = decide (620 ≤ p) from oi_ge (q := 620) (by omega) (by omega)] at h
    by_cases hpe : 620 ≤ p
    · rw [decide_eq_true hpe, cond_true] at h
      cases h
      exact ⟨rfl, fun i a b => absurd a (by omega), fun _ _ _ => rfl⟩
    · rw [decide_eq_false hpe, cond_false, oi_add, oi_nat (by omega), oi_suc (by omega)] at h
      obtain ⟨a, b, c⟩ := f200_185_l2_run hm k (p + 1) (by omega) h
      refine ⟨a, fun i h1 h2 => ?_, fun o i hn => ?_⟩
      · by_cases e : i = p
        · rw [c 186 _ (by omega), e, tup_eq]
        · rw [b i (by omega) h2]
      · rw [c o i (by omega), tup_ne (by omega)]
theorem f200_185_l26_run {N : Nat} {m : Nat} (hm : m ≤ 3720) : ∀ (k p : Nat) {I : tI} {J : tJ} {Y : Int32 × Int32 × tI × tJ}, p ≤ 120 → f200_185_l26 N k I J (Int32.ofNat m) (Int32.ofNat p) = some Y → Y.2.2.2 = J ∧ (∀ i, p ≤ i → i < 120 → Y.2.2.1 186 (m + 132 + i) = -1) ∧ ∀ o i, ¬ (o = 186 ∧ m + 132 + p ≤ i ∧ i < m + 132 + 120) → Y.2.2.1 o i = I o i
  | 0, _, _, _, _, _, h => by cases h
  | k + 1, p, I, J, Y, hp, h => by
    simp only [f200_185_l26] at h
    rw [show xcmp .ge (Int32.ofNat p) 120 = decide (120 ≤ p) from oi_ge (q := 120) (by omega) (by omega)] at h
    by_cases hpe : 120 ≤ p
    · rw [decide_eq_true hpe, cond_true] at h
      cases h
      exact ⟨rfl, fun i a b => absurd a (by omega), fun _ _ _ => rfl⟩
    · rw [decide_eq_false hpe, cond_false, show Int32.ofNat m + 132 = Int32.ofNat (m + 132) from oi_add (b := 132), oi_add, oi_nat (by omega), oi_suc (by omega)] at h
      obtain ⟨a, b, c⟩ := f200_185_l26_run hm k (p + 1) (by omega) h
      refine ⟨a, fun i h1 h2 => ?_, fun o i hn => ?_⟩
      · by_cases e : i = p
        · rw [c 186 _ (by omega), e, tup_eq]
        · rw [b i (by omega) h2]
      · rw [c o i (by omega), tup_ne (by omega)]
theorem f244_185_l59_run {N : Nat} : ∀ (k p : Nat) {I : tI} {J : tJ} {Y : Int32 × tI × tJ}, p ≤ 620 → f244_185_l59 N k I J (Int32.ofNat p) = some Y → Y.2.2 = J ∧ (∀ i, p ≤ i → i < 620 → Y.2.1 186 (i) = I 186 (2480 + i)) ∧ ∀ o i, ¬ (o = 186 ∧ p ≤ i ∧ i < 620) → Y.2.1 o i = I o i
  | 0, _, _, _, _, _, h => by cases h
  | k + 1, p, I, J, Y, hp, h => by
    simp only [f244_185_l59] at h
    rw [show xcmp .ge (Int32.ofNat p) 620 = decide (620 ≤ p) from oi_ge (q := 620) (by omega) (by omega)] at h
    by_cases hpe : 620 ≤ p
    · rw [decide_eq_true hpe, cond_true] at h
      cases h
      exact ⟨rfl, fun i a b => absurd a (by omega), fun _ _ _ => rfl⟩
    · rw [decide_eq_false hpe, cond_false, oi_nat (by omega), show (2480 : Int32) + Int32.ofNat p = Int32.ofNat (2480 + p) from oi_add (a := 2480), oi_nat (by omega), oi_suc (by omega)] at h
      obtain ⟨a, b, c⟩ := f244_185_l59_run k (p + 1) (by omega) h
      refine ⟨a, fun i h1 h2 => ?_, fun o i hn => ?_⟩
      · by_cases e : i = p
        · rw [c 186 _ (by omega), e, tup_eq]
        · rw [b i (by omega) h2, tup_ne (by omega)]
      · rw [c o i (by omega), tup_ne (by omega)]
theorem f244_185_l90_run {N : Nat} : ∀ (k p : Nat) {I : tI} {J : tJ} {Y : Int32 × tI × tJ}, p ≤ 15 → f244_185_l90 N k I J (Int32.ofNat p) = some Y → Y.2.1 = I ∧ (∀ i, p ≤ i → i < 15 → Y.2.2 187 (i) = J 187 (60 + i)) ∧ ∀ o i, ¬ (o = 187 ∧ p ≤ i ∧ i < 15) → Y.2.2 o i = J o i
  | 0, _, _, _, _, _, h => by cases h
  | k + 1, p, I, J, Y, hp, h => by
    simp only [f244_185_l90] at h
    rw [show xcmp .ge (Int32.ofNat p) 15 = decide (15 ≤ p) from oi_ge (q := 15) (by omega) (by omega)] at h
    by_cases hpe : 15 ≤ p
    · rw [decide_eq_true hpe, cond_true] at h
      cases h
      exact ⟨rfl, fun i a b => absurd a (by omega), fun _ _ _ => rfl⟩
    · rw [decide_eq_false hpe, cond_false, oi_nat (by omega), show (60 : Int32) + Int32.ofNat p = Int32.ofNat (60 + p) from oi_add (a := 60), oi_nat (by omega), oi_suc (by omega)] at h
      obtain ⟨a, b, c⟩ := f244_185_l90_run k (p + 1) (by omega) h
      refine ⟨a, fun i h1 h2 => ?_, fun o i hn => ?_⟩
      · by_cases e : i = p
        · rw [c 187 _ (by omega), e, tup_eq]
        · rw [b i (by omega) h2, tup_ne (by omega)]
      · rw [c o i (by omega), tup_ne (by omega)]
section PB
variable {t : Nat → Int32} {n N N' P S B W D : Nat} {Ic Ir I1 I2 : tI} {Jc Jr J1 J2 : tJ} {v w : Int32} {b : Int}
theorem f200_l2_x {m : Int32} : ∀ (k : Nat) {I : tI} {J : tJ} {x y1 y2 : Int32} {I1 : tI} {J1 : tJ}, f200_185_l2 N k I J m x = some (y1, y2, I1, J1) → y1 = m
  | 0, _, _, _, _, _, _, _, h => by cases h
  | k + 1, I, J, x, y1, y2, I1, J1, h => by
    simp only [f200_185_l2] at h
    rcases bsp h with ⟨-, h⟩ | ⟨-, h⟩
    · cases h
      rfl
    · exact f200_l2_x k h
theorem f200_l26_x {m : Int32} : ∀ (k : Nat) {I : tI} {J : tJ} {x y1 y2 : Int32} {I1 : tI} {J1 : tJ}, f200_185_l26 N k I J m x = some (y1, y2, I1, J1) → y1 = m
  | 0, _, _, _, _, _, _, _, h => by cases h
  | k + 1, I, J, x, y1, y2, I1, J1, h => by
    simp only [f200_185_l26] at h
    rcases bsp h with ⟨-, h⟩ | ⟨-, h⟩
    · cases h
      rfl
    · exact f200_l26_x k h
theorem i8_self {x : Int32} (h : -128 ≤ x.toInt ∧ x.toInt ≤ 127) : x.toInt8.toInt32 = x := i32_eq (by
  rw [Int8.toInt_toInt32, Int32.toInt_toInt8]
  exact Int.bmod_eq_of_le (by omega) (by omega))
/-- a slot of the reference made plain -/
theorem f200_is {m : Nat} (hm : m ≤ 3000) {I : tI} {J : tJ} {q : Unit × tI × tJ} (h : f200_185 N I J (Int32.ofNat m) = some q) : q.2.2 = J ∧ (q.2.1 186 (m + 6) = 5 ∧ q.2.1 186 (m + 7) = 1 ∧ q.2.1 186 (m + 8) = -1) ∧ (∀ k, k < 120 → q.2.1 186 (m + 132 + k) = -1) ∧ (∀ k, k < 620 → k ≠ 6 → k ≠ 7 → k ≠ 8 → ¬ (132 ≤ k ∧ k < 252) → q.2.1 186 (m + k) = 0) ∧ ∀ o k, ¬ (o = 186 ∧ m ≤ k ∧ k < m + 620) → q.2.1 o k = I o k := by
  unfold f200_185 at h
  cases e1 : f200_185_l2 N N I J (Int32.ofNat m) 0 with
  | none => rw [e1] at h; cases h
  | some Y =>
  have z0 : f200_185_l2 N N I J (Int32.ofNat m) (Int32.ofNat 0) = some Y := e1
  obtain ⟨a1, a2, a3⟩ := f200_185_l2_run (by omega) N 0 (by omega) z0
  obtain ⟨y1, y2, I3, J3⟩ := Y
  rw [e1] at h
  dsimp only at h a1 a2 a3
  have ey : y1 = Int32.ofNat m := f200_l2_x N e1
  subst ey
  cases e2 : f200_185_l26 N N I3 J3 (Int32.ofNat m) 0 with
  | none => rw [e2] at h; cases h
  | some Y =>
  have z1 : f200_185_l26 N N I3 J3 (Int32.ofNat m) (Int32.ofNat 0) = some Y := e2
  obtain ⟨b1, b2, b3⟩ := f200_185_l26_run (by omega) N 0 (by omega) z1
  obtain ⟨y3, y4, I4, J4⟩ := Y
  rw [e2] at h
  dsimp only at h b1 b2 b3
  have ey : y3 = Int32.ofNat m := f200_l26_x N e2
  subst ey
  rw [show (Int32.ofNat m + 6).toNatClampNeg = m + 6 from ox (b := 6) (by omega), show (Int32.ofNat m + 7).toNatClampNeg = m + 7 from ox (b := 7) (by omega), show (Int32.ofNat m + 8).toNatClampNeg = m + 8 from ox (b := 8) (by omega)] at h
  cases h
  dsimp only
  refine ⟨by rw [b1, a1], ⟨by rw [tup_ne (by omega), tup_ne (by omega), tup_eq], by rw [tup_ne (by omega), tup_eq], tup_eq⟩, fun k hk => ?_, fun k h1 h2 h3 h4 h5 => ?_, fun o k hn => ?_⟩
  · rw [tup_ne (by omega), tup_ne (by omega), tup_ne (by omega), b2 k (by omega) hk]
  · rw [tup_ne (by omega), tup_ne (by omega), tup_ne (by omega), b3 _ _ (by omega), a2 k (by omega) h1]
  · rw [tup_ne (by omega), tup_ne (by omega), tup_ne (by omega), b3 _ _ (by omega), a3 _ _ (by omega)]
/-- the class's draft made empty -/
theorem f104_is {I : tI} {J : tJ} {q : Unit × tI × tJ} (h : f104_36 N I J = some q) : q.2.2 = tup J 37 2 0 ∧ (q.2.1 37 0 = 0 ∧ q.2.1 37 1 = 0 ∧ q.2.1 38 0 = 0 ∧ q.2.1 38 1 = 0 ∧ q.2.1 47 0 = 0 ∧ q.2.1 36 4 = 5 ∧ q.2.1 36 5 = 1 ∧ q.2.1 36 6 = 0 ∧ q.2.1 52 0 = 0 ∧ q.2.1 52 1 = 0 ∧ q.2.1 52 2 = 0) ∧ ∀ k, k < 121 → q.2.1 59 k = -1 := by
  unfold f104_36 f71_52 at h
  dsimp only at h
  replace h := obU h
  obtain ⟨u, I2, J2, e, h⟩ := h
  unfold f355_59 at e
  cases e1 : f355_59_l5 N N (tup (tup (tup (tup (tup (tup (tup (tup (tup (tup (tup I 37 0 0) 37 1 0) 38 0 0) 38 1 0) 47 0 0) 52 0 0) 52 1 0) 52 2 0) 36 4 5) 36 5 1) 36 6 0) (tup J 37 2 0) (-1) 0 121 with
  | none => rw [e1] at e; cases e
  | some Y =>
  have z0 : f355_59_l5 N N (tup (tup (tup (tup (tup (tup (tup (tup (tup (tup (tup I 37 0 0) 37 1 0) 38 0 0) 38 1 0) 47 0 0) 52 0 0) 52 1 0) 52 2 0) 36 4 5) 36 5 1) 36 6 0) (tup J 37 2 0) (-1) (Int32.ofNat 0) 121 = some Y := e1
  obtain ⟨a1, a2, a3⟩ := f355_59_l5_run N 0 (by omega) z0
  obtain ⟨y1, y2, y3, I3, J3⟩ := Y
  rw [e1] at e
  dsimp only at e a1 a2 a3
  cases e
  cases h
  dsimp only
  refine ⟨a1, ⟨?_, ?_, ?_, ?_, ?_, ?_, ?_, ?_, ?_, ?_, ?_⟩, fun k hk => a2 k (by omega) hk⟩ <;> (rw [a3 _ _ (by omega)]; rfl)
/-- where both stand behind the beginning -/
theorem begin_rel {a : Nat} {u : Unit} (ha : a ≤ 900) (hb : byt t a) (h4 : Ic 0 4 = 0) (ht : ∀ i, i < a → Ic 9 i = t i) (ht' : ∀ i, i < a → Ir 191 i = t i) (hk : ∀ k, k < 2480 → Ir 186 k = t (1000 + k)) (hc : f24_8 N Ic Jc (Int32.ofNat a) = some (u, I1, J1)) (hr : (match f226_185_l26 N' N' (tup Ir 185 11 (Int32.ofNat a)) Jr (Int32.ofNat a) 0 with | none => none | some (y4_1, y4_3, I4, J4) => (match f222_185 N' (tup (tup (tup (tup (tup I4 185 10 0) 185 18 0) 185 17 (-1)) 185 14 0) 185 19 0) J4 with | none => none | some (_, I5, J5) => some ((1 : Int32), I5, J5))) = some (w, I2, J2)) : w = 1 ∧ R0 t a 0 I1 J1 I2 ∧ (∀ o k, ¬ (o = 8 ∧ 1 ≤ k ∧ k ≤ 10) → I1 o k = Ic o k) ∧ (I1 8 9 = 0 ∧ I1 8 10 = -1) ∧ gJ Jc J1 ∧ J2 = Jr ∧ (∀ o k, ¬ (o = 192 ∨ (o = 185 ∧ 10 ≤ k ∧ k ≤ 19)) → I2 o k = Ir o k) ∧ I2 185 10 = 0 ∧ I2 185 17 = -1 ∧ I2 185 18 = 0 := by
  unfold f24_8 at hc
  replace hc := obU hc
  obtain ⟨u1, Ia, Ja, e1, hc⟩ := hc
  cases hc
  have em : (if (900 : Int32) < Int32.ofNat a then (900 : Int32) else Int32.ofNat a) = Int32.ofNat a := by
    rw [if_neg]
    rw [Int32.lt_iff_toInt_lt, oi_int (by omega), show (900 : Int32).toInt = 900 from rfl]
    omega
  rw [em] at e1
  cases e2 : f226_185_l26 N' N' (tup Ir 185 11 (Int32.ofNat a)) Jr (Int32.ofNat a) 0 with
  | none => rw [e2] at hr; cases hr
  | some Y =>
  have z0 : f226_185_l26 N' N' (tup Ir 185 11 (Int32.ofNat a)) Jr (Int32.ofNat a) (Int32.ofNat 0) = some Y := e2
  obtain ⟨a1, a2, a3⟩ := f226_185_l26_run ha N' 0 (by omega) z0
  obtain ⟨y1, y2, I4, J4⟩ := Y
  rw [e2] at hr
  dsimp only at hr a1 a2 a3
  subst a1
  replace hr := obU hr
  obtain ⟨u2, I5, J5, e3, hr⟩ := hr
  cases hr
  have v192 : ∀ i, i < a → I4 192 i = t i := fun i hi => by
    rw [a2 i (by omega) hi, tup_ne (by omega), ht' i hi]
    exact i8_self (hb i hi)
  obtain ⟨c1, c2, c3, c4⟩ := adv_c (t := t) (e := 0) ha (by omega) (by rw [tup_ne (by omega), tup_ne (by omega), tup_ne (by omega), tup_eq]) (by rw [tup_ne (by omega), tup_ne (by omega), tup_eq]; rfl) (fun i hi => by rw [tup_ne (by omega), tup_ne (by omega), tup_ne (by omega), tup_ne (by omega)]; exact ht i hi) e1
  obtain ⟨d1, d2, d3, d4⟩ := adv_r (t := t) (e := 0) ha hb (by omega) (by rw [tup_ne (by omega), tup_ne (by omega), tup_ne (by omega), tup_ne (by omega), tup_ne (by omega), a3 _ _ (by omega), tup_eq]) (by rw [tup_ne (by omega), tup_eq]; rfl) (fun i hi => by rw [tup_ne (by omega), tup_ne (by omega), tup_ne (by omega), tup_ne (by omega), tup_ne (by omega)]; exact v192 i hi) e3
  subst d2
  have hl := lxS_le (t := t) (n := a) (a - 0) 0 (by omega)
  have fI : ∀ o k, ¬ (o = 8 ∧ 1 ≤ k ∧ k ≤ 10) → I1 o k = Ic o k := fun o k hn => by
    rw [c1 o k (by omega), tup_ne (by omega), tup_ne (by omega), tup_ne (by omega), tup_ne (by omega)]
  have fR : ∀ o k, ¬ (o = 192 ∨ (o = 185 ∧ 10 ≤ k ∧ k ≤ 19)) → I2 o k = Ir o k := fun o k hn => by
    rw [d1 o k (by omega), tup_ne (by omega), tup_ne (by omega), tup_ne (by omega), tup_ne (by omega), tup_ne (by omega), a3 _ _ (by omega), tup_ne (by omega)]
  have q17 : I2 185 17 = -1 := by rw [d1 _ _ (by omega), tup_ne (by omega), tup_ne (by omega), tup_eq]
  have x10 : I2 185 10 = 0 := by rw [d1 _ _ (by omega), tup_ne (by omega), tup_ne (by omega), tup_ne (by omega), tup_ne (by omega), tup_eq]
  have q9 : I1 8 9 = 0 := by rw [c1 _ _ (by omega), tup_ne (by omega), tup_eq]
  have q10 : I1 8 10 = -1 := by rw [c1 _ _ (by omega), tup_eq]
  refine ⟨rfl, ⟨⟨ha, hb, ⟨?_, ?_⟩, ⟨fun i hi => ?_, fun i hi => ?_⟩, _, hl.2, c3, d3, c4, d4⟩, ?_, ?_, ⟨⟨?_, x10⟩, fun k hk' => ?_⟩, q17, q9, q10⟩, fI, ⟨q9, q10⟩, c2, rfl, fR, x10, q17, ?_⟩
  · rw [c1 _ _ (by omega), tup_ne (by omega), tup_ne (by omega), tup_ne (by omega), tup_eq]
  · rw [d1 _ _ (by omega), tup_ne (by omega), tup_ne (by omega), tup_ne (by omega), tup_ne (by omega), tup_ne (by omega), a3 _ _ (by omega), tup_eq]
  · rw [fI _ _ (by omega)]; exact ht i hi
  · rw [d1 _ _ (by omega), tup_ne (by omega), tup_ne (by omega), tup_ne (by omega), tup_ne (by omega), tup_ne (by omega)]; exact v192 i hi
  · rw [d1 _ _ (by omega), tup_ne (by omega), tup_ne (by omega), tup_ne (by omega), tup_eq]
  · rw [c3, oi_int (by omega)]; omega
  · rw [fI _ _ (by omega)]; exact h4
  · rw [fR _ _ (by omega)]; exact hk k hk'
  · rw [d1 _ _ (by omega), tup_ne (by omega), tup_ne (by omega), tup_ne (by omega), tup_eq]
end PB
