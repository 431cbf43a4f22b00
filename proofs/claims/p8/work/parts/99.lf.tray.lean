/-! TRAYS: class and reference alike -/
theorem nat_i {a : Int32} (h : 0 ≤ a.toInt) : ∃ n : Nat, n < 2147483648 ∧ a = Int32.ofNat n := by
  have h2 := (ti_bd a).2
  refine ⟨a.toInt.toNat, by omega, i32_eq ?_⟩
  rw [oi_int (by omega)]
  omega
theorem e10 : xcmp .eq (1 : Int32) 0 = false := rfl
theorem e00 : xcmp .eq (0 : Int32) 0 = true := rfl
theorem f133_is {I : tI} {J : tJ} {a : Int32} : f133 I J a = (if 0 ≤ a.toInt ∧ a.toInt ≤ 3 then 1 else 0, I, J) := by
  unfold f133
  rw [f127_is]
  rfl
theorem f209_is {I : tI} {J : tJ} {a : Int32} : f209 I J a = (if 0 ≤ a.toInt ∧ a.toInt ≤ 3 then 1 else 0, I, J) := by
  unfold f209
  rw [tc_lt, tc_ge, show (0 : Int32).toInt = 0 from rfl, show (4 : Int32).toInt = 4 from rfl]
  by_cases h1 : a.toInt < 0
  · rw [decide_eq_true h1, cond_true, if_neg (by omega)]
  · rw [decide_eq_false h1, cond_false]
    by_cases h2 : 4 ≤ a.toInt
    · rw [decide_eq_true h2, cond_true, if_neg (by omega)]
    · rw [decide_eq_false h2, cond_false, if_pos (by omega)]
theorem fill2_l {N : Nat} : ∀ (k p : Nat) {I : tI} {J : tJ} {Y : Int64 × Int32 × Int32 × tI × tJ}, p ≤ 60 → f354_2_l6 N k I J 0 (Int32.ofNat p) 60 = some Y → Y.2.2.2.1 = I ∧ (∀ o i, ¬ (o = 2 ∧ p ≤ i ∧ i < 60) → Y.2.2.2.2 o i = J o i) ∧ ∀ i, p ≤ i → i < 60 → Y.2.2.2.2 2 i = 0
  | 0, _, _, _, _, _, h => by cases h
  | k + 1, p, I, J, Y, hp, h => by
    simp only [f354_2_l6] at h
    rw [show xcmp .ge (Int32.ofNat p) 60 = decide (60 ≤ p) from oi_ge (q := 60) (by omega) (by omega)] at h
    by_cases e : 60 ≤ p
    · rw [decide_eq_true e, cond_true] at h
      cases h
      exact ⟨rfl, fun _ _ _ => rfl, fun i h1 h2 => absurd h1 (by omega)⟩
    · rw [decide_eq_false e, cond_false, oi_nat (by omega), oi_suc (by omega)] at h
      obtain ⟨h1, h2, h3⟩ := fill2_l k (p + 1) (by omega) h
      refine ⟨h1, fun o i hn => ?_, fun i h4 h5 => ?_⟩
      · rw [h2 o i (fun q => hn ⟨q.1, by omega, q.2.2⟩), tup_ne (fun q => hn ⟨q.1, by omega, by omega⟩)]
      · by_cases e2 : i = p
        · rw [h2 2 i (fun q => by omega), e2, tup_eq]
        · exact h3 i (by omega) h5
theorem fill2_ok {N : Nat} {I I1 : tI} {J J1 : tJ} {u : Unit} (h : f354_2 N I J 0 = some (u, I1, J1)) : I1 = I ∧ (∀ o i, o ≠ 2 → J1 o i = J o i) ∧ ∀ i, i < 60 → J1 2 i = 0 := by
  unfold f354_2 at h
  cases e : f354_2_l6 N N I J 0 0 60 with
  | none => rw [e] at h; cases h
  | some Y =>
  obtain ⟨h1, h2, h3⟩ := fill2_l N 0 (by omega) e
  obtain ⟨y1, y2, y3, I3, J3⟩ := Y
  rw [e] at h
  dsimp only at h h1 h2 h3
  cases h
  exact ⟨h1, fun o i ho => h2 o i (fun q => ho q.1), fun i hi => h3 i (by omega) hi⟩
theorem fill3_l {N : Nat} : ∀ (k p : Nat) {I : tI} {J : tJ} {Y : Int64 × Int32 × Int32 × tI × tJ}, p ≤ 60 → f354_3_l6 N k I J 0 (Int32.ofNat p) 60 = some Y → Y.2.2.2.1 = I ∧ (∀ o i, ¬ (o = 3 ∧ p ≤ i ∧ i < 60) → Y.2.2.2.2 o i = J o i) ∧ ∀ i, p ≤ i → i < 60 → Y.2.2.2.2 3 i = 0
  | 0, _, _, _, _, _, h => by cases h
  | k + 1, p, I, J, Y, hp, h => by
    simp only [f354_3_l6] at h
    rw [show xcmp .ge (Int32.ofNat p) 60 = decide (60 ≤ p) from oi_ge (q := 60) (by omega) (by omega)] at h
    by_cases e : 60 ≤ p
    · rw [decide_eq_true e, cond_true] at h
      cases h
      exact ⟨rfl, fun _ _ _ => rfl, fun i h1 h2 => absurd h1 (by omega)⟩
    · rw [decide_eq_false e, cond_false, oi_nat (by omega), oi_suc (by omega)] at h
      obtain ⟨h1, h2, h3⟩ := fill3_l k (p + 1) (by omega) h
      refine ⟨h1, fun o i hn => ?_, fun i h4 h5 => ?_⟩
      · rw [h2 o i (fun q => hn ⟨q.1, by omega, q.2.2⟩), tup_ne (fun q => hn ⟨q.1, by omega, by omega⟩)]
      · by_cases e2 : i = p
        · rw [h2 3 i (fun q => by omega), e2, tup_eq]
        · exact h3 i (by omega) h5
theorem fill3_ok {N : Nat} {I I1 : tI} {J J1 : tJ} {u : Unit} (h : f354_3 N I J 0 = some (u, I1, J1)) : I1 = I ∧ (∀ o i, o ≠ 3 → J1 o i = J o i) ∧ ∀ i, i < 60 → J1 3 i = 0 := by
  unfold f354_3 at h
  cases e : f354_3_l6 N N I J 0 0 60 with
  | none => rw [e] at h; cases h
  | some Y =>
  obtain ⟨h1, h2, h3⟩ := fill3_l N 0 (by omega) e
  obtain ⟨y1, y2, y3, I3, J3⟩ := Y
  rw [e] at h
  dsimp only at h h1 h2 h3
  cases h
  exact ⟨h1, fun o i ho => h2 o i (fun q => ho q.1), fun i hi => h3 i (by omega) hi⟩
theorem fill4_l {N : Nat} : ∀ (k p : Nat) {I : tI} {J : tJ} {Y : Int64 × Int32 × Int32 × tI × tJ}, p ≤ 60 → f354_4_l6 N k I J 0 (Int32.ofNat p) 60 = some Y → Y.2.2.2.1 = I ∧ (∀ o i, ¬ (o = 4 ∧ p ≤ i ∧ i < 60) → Y.2.2.2.2 o i = J o i) ∧ ∀ i, p ≤ i → i < 60 → Y.2.2.2.2 4 i = 0
  | 0, _, _, _, _, _, h => by cases h
  | k + 1, p, I, J, Y, hp, h => by
    simp only [f354_4_l6] at h
    rw [show xcmp .ge (Int32.ofNat p) 60 = decide (60 ≤ p) from oi_ge (q := 60) (by omega) (by omega)] at h
    by_cases e : 60 ≤ p
    · rw [decide_eq_true e, cond_true] at h
      cases h
      exact ⟨rfl, fun _ _ _ => rfl, fun i h1 h2 => absurd h1 (by omega)⟩
    · rw [decide_eq_false e, cond_false, oi_nat (by omega), oi_suc (by omega)] at h
      obtain ⟨h1, h2, h3⟩ := fill4_l k (p + 1) (by omega) h
      refine ⟨h1, fun o i hn => ?_, fun i h4 h5 => ?_⟩
      · rw [h2 o i (fun q => hn ⟨q.1, by omega, q.2.2⟩), tup_ne (fun q => hn ⟨q.1, by omega, by omega⟩)]
      · by_cases e2 : i = p
        · rw [h2 4 i (fun q => by omega), e2, tup_eq]
        · exact h3 i (by omega) h5
theorem fill4_ok {N : Nat} {I I1 : tI} {J J1 : tJ} {u : Unit} (h : f354_4 N I J 0 = some (u, I1, J1)) : I1 = I ∧ (∀ o i, o ≠ 4 → J1 o i = J o i) ∧ ∀ i, i < 60 → J1 4 i = 0 := by
  unfold f354_4 at h
  cases e : f354_4_l6 N N I J 0 0 60 with
  | none => rw [e] at h; cases h
  | some Y =>
  obtain ⟨h1, h2, h3⟩ := fill4_l N 0 (by omega) e
  obtain ⟨y1, y2, y3, I3, J3⟩ := Y
  rw [e] at h
  dsimp only at h h1 h2 h3
  cases h
  exact ⟨h1, fun o i ho => h2 o i (fun q => ho q.1), fun i hi => h3 i (by omega) hi⟩
theorem fill5_l {N : Nat} : ∀ (k p : Nat) {I : tI} {J : tJ} {Y : Int64 × Int32 × Int32 × tI × tJ}, p ≤ 60 → f354_5_l6 N k I J 0 (Int32.ofNat p) 60 = some Y → Y.2.2.2.1 = I ∧ (∀ o i, ¬ (o = 5 ∧ p ≤ i ∧ i < 60) → Y.2.2.2.2 o i = J o i) ∧ ∀ i, p ≤ i → i < 60 → Y.2.2.2.2 5 i = 0
  | 0, _, _, _, _, _, h => by cases h
  | k + 1, p, I, J, Y, hp, h => by
    simp only [f354_5_l6] at h
    rw [show xcmp .ge (Int32.ofNat p) 60 = decide (60 ≤ p) from oi_ge (q := 60) (by omega) (by omega)] at h
    by_cases e : 60 ≤ p
    · rw [decide_eq_true e, cond_true] at h
      cases h
      exact ⟨rfl, fun _ _ _ => rfl, fun i h1 h2 => absurd h1 (by omega)⟩
    · rw [decide_eq_false e, cond_false, oi_nat (by omega), oi_suc (by omega)] at h
      obtain ⟨h1, h2, h3⟩ := fill5_l k (p + 1) (by omega) h
      refine ⟨h1, fun o i hn => ?_, fun i h4 h5 => ?_⟩
      · rw [h2 o i (fun q => hn ⟨q.1, by omega, q.2.2⟩), tup_ne (fun q => hn ⟨q.1, by omega, by omega⟩)]
      · by_cases e2 : i = p
        · rw [h2 5 i (fun q => by omega), e2, tup_eq]
        · exact h3 i (by omega) h5
theorem fill5_ok {N : Nat} {I I1 : tI} {J J1 : tJ} {u : Unit} (h : f354_5 N I J 0 = some (u, I1, J1)) : I1 = I ∧ (∀ o i, o ≠ 5 → J1 o i = J o i) ∧ ∀ i, i < 60 → J1 5 i = 0 := by
  unfold f354_5 at h
  cases e : f354_5_l6 N N I J 0 0 60 with
  | none => rw [e] at h; cases h
  | some Y =>
  obtain ⟨h1, h2, h3⟩ := fill5_l N 0 (by omega) e
  obtain ⟨y1, y2, y3, I3, J3⟩ := Y
  rw [e] at h
  dsimp only at h h1 h2 h3
  cases h
  exact ⟨h1, fun o i ho => h2 o i (fun q => ho q.1), fun i hi => h3 i (by omega) hi⟩
theorem zero_l {N t m : Nat} (ht : t < 4) (hm : m ≤ 60) : ∀ (k p : Nat) {I : tI} {J : tJ} {Y : Int32 × Int32 × Int32 × tI × tJ}, p ≤ m → f211_185_l49 N k I J (Int32.ofNat t) (Int32.ofNat m) (Int32.ofNat p) = some Y → Y.2.2.2.1 = I ∧ (∀ o i, ¬ (o = 190 ∧ 60 * t + p ≤ i ∧ i < 60 * t + m) → Y.2.2.2.2 o i = J o i) ∧ ∀ i, p ≤ i → i < m → Y.2.2.2.2 190 (60 * t + i) = 0
  | 0, _, _, _, _, _, h => by cases h
  | k + 1, p, I, J, Y, hp, h => by
    simp only [f211_185_l49] at h
    rw [oi_ge (by omega) (by omega)] at h
    by_cases e : m ≤ p
    · rw [decide_eq_true e, cond_true] at h
      cases h
      exact ⟨rfl, fun _ _ _ => rfl, fun i h1 h2 => absurd h1 (by omega)⟩
    · rw [decide_eq_false e, cond_false, show (60 : Int32) * Int32.ofNat t = Int32.ofNat (60 * t) from oi_mul (a := 60), oi_add, oi_nat (by omega), oi_suc (by omega)] at h
      obtain ⟨h1, h2, h3⟩ := zero_l ht hm k (p + 1) (by omega) h
      refine ⟨h1, fun o i hn => ?_, fun i h4 h5 => ?_⟩
      · rw [h2 o i (fun q => hn ⟨q.1, by omega, q.2.2⟩), tup_ne (fun q => hn ⟨q.1, by omega, by omega⟩)]
      · by_cases e2 : i = p
        · rw [h2 190 (60 * t + i) (fun q => by omega), e2, tup_eq]
        · exact h3 i (by omega) h5
/-- one tray: none on both sides, or the same sort, size, numbers -/
def TYt (w : Prop) (Ic Ir : tI) (Jc Jr : tJ) (t : Nat) : Prop := (Ic 6 t = -1 ∧ Ir 189 t = -1) ∨ (Ic 6 t ≠ -1 ∧ Ic 6 t = Ir 188 t ∧ ∃ m, m ≤ 60 ∧ Ic 7 t = Int32.ofNat m ∧ Ir 189 t = Int32.ofNat m ∧ (w → ∀ i, i < m → Jc (2 + t) i = Jr 190 (60 * t + i)))
/-- .. the numbers only where w asks for them -/
def TY (w : Prop) (Ic Ir : tI) (Jc Jr : tJ) : Prop := ∀ t, t < 4 → TYt w Ic Ir Jc Jr t
section TRY
variable {z : Prop} {N N' : Nat} {Ic Ir I1 I2 : tI} {Jc Jr J1 J2 : tJ} {v w : Int32}
theorem TY_cg {Ic' Ir' : tI} {Jc' Jr' : tJ} (h : TY z Ic Ir Jc Jr) (h1 : ∀ t, t < 4 → Ic' 6 t = Ic 6 t ∧ Ic' 7 t = Ic 7 t ∧ Ir' 188 t = Ir 188 t ∧ Ir' 189 t = Ir 189 t) (h2 : z → ∀ t i, t < 4 → i < 60 → Jc' (2 + t) i = Jc (2 + t) i ∧ Jr' 190 (60 * t + i) = Jr 190 (60 * t + i)) : TY z Ic' Ir' Jc' Jr' := fun t ht => by
  obtain ⟨g1, g2, g3, g4⟩ := h1 t ht
  rcases h t ht with ⟨q1, q2⟩ | ⟨q1, q2, m, q3, q4, q5, q6⟩
  · exact .inl ⟨g1.trans q1, g4.trans q2⟩
  · refine .inr ⟨by rw [g1]; exact q1, by rw [g1, g3]; exact q2, m, q3, g2.trans q4, g4.trans q5, fun hz i hi => ?_⟩
    obtain ⟨k1, k2⟩ := h2 hz t i ht (by omega)
    rw [k1, k2]
    exact q6 hz i hi
theorem TY_st {s s' : Int32} (h : TY z Ic Ir Jc Jr) : TY z (tup Ic 0 5 s) (tup Ir 185 2 s') Jc Jr := TY_cg h (fun t ht => ⟨tup_ne (by omega), tup_ne (by omega), tup_ne (by omega), tup_ne (by omega)⟩) (fun _ _ _ _ _ => ⟨rfl, rfl⟩)
theorem TY_wr {t i : Nat} {x : Int64} (h : TY z Ic Ir Jc Jr) (ht : t < 4) (hi : i < 60) : TY z Ic Ir (tup Jc (2 + t) i x) (tup Jr 190 (60 * t + i) x) := fun t' ht' => by
  rcases h t' ht' with q | ⟨q1, q2, m, q3, q4, q5, q6⟩
  · exact .inl q
  · refine .inr ⟨q1, q2, m, q3, q4, q5, fun hz i' hi' => ?_⟩
    by_cases e : t' = t ∧ i' = i
    · obtain ⟨rfl, rfl⟩ := e
      rw [tup_eq, tup_eq]
    · refine (tup_ne (by omega)).trans (Eq.trans ?_ (tup_ne (by omega)).symm)
      exact q6 hz i' hi'
theorem place_rel {a b : Int32} (hT : TY z Ic Ir Jc Jr) : (∃ s : Int32, (s = 1 ∨ s = 2 ∨ s = 3) ∧ f138_0 Ic Jc a b = (s, Ic, Jc) ∧ f212_185 Ir Jr a b = (s, Ir, Jr)) ∨ (f138_0 Ic Jc a b = (0, Ic, Jc) ∧ f212_185 Ir Jr a b = (0, Ir, Jr) ∧ ∃ t i, t < 4 ∧ i < 60 ∧ a = Int32.ofNat t ∧ b = Int32.ofNat i ∧ Ic 6 t = Ir 188 t ∧ (z → Jc (2 + t) i = Jr 190 (60 * t + i))) := by
  unfold f138_0 f212_185
  rw [f133_is, f209_is]
  dsimp only
  by_cases ha : 0 ≤ a.toInt ∧ a.toInt ≤ 3
  · obtain ⟨t, hb, rfl⟩ := nat_i ha.1
    rw [if_pos ha, n10, cond_true, cond_true]
    have ht : t < 4 := by
      rw [oi_int hb] at ha
      omega
    rw [oi_nat (by omega)]
    rcases hT t ht with ⟨q1, q2⟩ | ⟨q1, q2, m, q3, q4, q5, q6⟩
    · rw [q1, q2, show xcmp .ne (-1 : Int32) (-1) = false from rfl, cond_false, cond_false]
      exact .inl ⟨2, .inr (.inl rfl), rfl, rfl⟩
    · have z0 : (0 : Int32).toInt = 0 := rfl
      rw [xc_ne q1, cond_true, q5, xc_ne (oi_m1 (by omega)), cond_true, f127_is, q4, tc_lt, tc_lt, z0, oi_int (by omega)]
      have e1 : (Int32.ofNat m - 1).toInt = (m : Int) - 1 := oi_sub1 (by omega)
      rw [e1]
      dsimp only
      by_cases hb : 0 ≤ b.toInt ∧ b.toInt ≤ (m : Int) - 1
      · obtain ⟨i, hi, rfl⟩ := nat_i hb.1
        rw [oi_int hi] at hb ⊢
        rw [if_pos hb, e10, cond_false, decide_eq_false (by omega), cond_false, decide_eq_true (by omega), cond_true]
        exact .inr ⟨rfl, rfl, t, i, ht, by omega, rfl, rfl, q2, fun hz => q6 hz i (by omega)⟩
      · rw [if_neg hb, e00, cond_true]
        refine .inl ⟨3, .inr (.inr rfl), rfl, ?_⟩
        by_cases h0 : b.toInt < 0
        · rw [decide_eq_true h0, cond_true]
        · rw [decide_eq_false h0, cond_false, decide_eq_false (by omega), cond_false]
  · rw [if_neg ha, n00, cond_false, cond_false]
    exact .inl ⟨1, .inl rfl, rfl, rfl⟩
theorem cut_rel {I I' : tI} {J J' : tJ} {s : Int32} {x : Int64} : ∃ c, f140 I J s x = (c, I, J) ∧ f210 I' J' x s = (c, I', J') := by
  unfold f140 f210
  by_cases h0 : s = 0
  · subst h0
    exact ⟨_, rfl, rfl⟩
  · rw [xc_eqn h0, xc_ne h0, cond_false, cond_true]
    by_cases h1 : s = 1
    · subst h1
      exact ⟨_, rfl, rfl⟩
    · rw [xc_eqn h1, xc_ne h1, cond_false, cond_true]
      by_cases h2 : s = 2
      · subst h2
        exact ⟨_, rfl, rfl⟩
      · rw [xc_eqn h2, xc_ne h2, cond_false, cond_true]
        exact ⟨_, rfl, rfl⟩
theorem write_rel {a b : Int32} {x : Int64} (hT : TY z Ic Ir Jc Jr) (hc : f135_0 Ic Jc a b x = (v, I1, J1)) (hr : f213_185 Ir Jr a b x = (w, I2, J2)) : v = w ∧ TY z I1 I2 J1 J2 := by
  unfold f135_0 at hc
  unfold f213_185 at hr
  rcases place_rel (a := a) (b := b) hT with ⟨s, hs, h1, h2⟩ | ⟨h1, h2, t, i, ht, hi, rfl, rfl, h3, h4⟩
  · have hs0 : s ≠ 0 := by rcases hs with rfl | rfl | rfl <;> decide
    rw [h1] at hc
    rw [h2] at hr
    dsimp only at hc hr
    rw [xc_eqn hs0, cond_false] at hc
    rw [xc_ne hs0, cond_true] at hr
    unfold f124_0 at hc
    unfold f204_185 at hr
    rw [xc_ne hs0, cond_true] at hr
    cases hc
    cases hr
    exact ⟨rfl, TY_st hT⟩
  · rw [h1] at hc
    rw [h2] at hr
    dsimp only at hc hr
    rw [e00, cond_true, oi_nat (by omega), oi_nat (by omega), h3] at hc
    rw [n00, cond_false, oi_nat (by omega), show (60 : Int32) * Int32.ofNat t = Int32.ofNat (60 * t) from oi_mul (a := 60), oi_add, oi_nat (by omega)] at hr
    obtain ⟨c, c1, c2⟩ := cut_rel (I := Ic) (I' := Ir) (J := Jc) (J' := Jr) (s := Ir 188 t) (x := x)
    rw [c1] at hc
    rw [c2] at hr
    unfold f123_0 at hc
    unfold f204_185 at hr
    dsimp only at hc hr
    rw [n00, cond_false] at hr
    cases hr
    have hc' : ((1 : Int32), tup Ic 0 5 0, tup Jc (2 + t) i c) = (v, I1, J1) := by
      rw [← hc]
      rcases (by omega : t = 0 ∨ t = 1 ∨ t = 2 ∨ t = 3) with rfl | rfl | rfl | rfl <;> rfl
    cases hc'
    exact ⟨rfl, TY_st (TY_wr hT ht hi)⟩
theorem read_rel {a b : Int32} {v w : Int64} (hz : z) (hT : TY z Ic Ir Jc Jr) (hc : f136_0 Ic Jc a b = (v, I1, J1)) (hr : f214_185 Ir Jr a b = (w, I2, J2)) : v = w := by
  unfold f136_0 at hc
  unfold f214_185 at hr
  rcases place_rel (a := a) (b := b) hT with ⟨s, hs, h1, h2⟩ | ⟨h1, h2, t, i, ht, hi, rfl, rfl, h3, h4⟩
  · have hs0 : s ≠ 0 := by rcases hs with rfl | rfl | rfl <;> decide
    have hs1 : xcmp .le s 0 = false := by rcases hs with rfl | rfl | rfl <;> rfl
    rw [h1] at hc
    rw [h2] at hr
    dsimp only at hc hr
    rw [xc_eqn hs0, cond_false] at hc
    rw [hs1, cond_false] at hr
    unfold f122_0 at hc
    cases hc
    cases hr
    rfl
  · rw [h1] at hc
    rw [h2] at hr
    dsimp only at hc hr
    rw [e00, cond_true, oi_nat (by omega)] at hc
    rw [show xcmp .le (0 : Int32) 0 = true from rfl, cond_true, show (60 : Int32) * Int32.ofNat t = Int32.ofNat (60 * t) from oi_mul (a := 60), oi_add, oi_nat (by omega)] at hr
    cases hr
    have hc' : (Jc (2 + t) i, tup Ic 0 5 0, Jc) = (v, I1, J1) := by
      rw [← hc]
      rcases (by omega : t = 0 ∨ t = 1 ∨ t = 2 ∨ t = 3) with rfl | rfl | rfl | rfl <;> rfl
    cases hc'
    exact h4 hz
end TRY
section TRZ
variable {z : Prop} {N N' : Nat} {Ic Ir I1 I2 : tI} {Jc Jr J1 J2 : tJ} {v w : Int32}
theorem f204_1 {I : tI} {J : tJ} {s : Int32} (h : s ≠ 0) : f204_185 I J s = (0, tup I 185 2 s, J) := by
  unfold f204_185
  rw [xc_ne h, cond_true]
theorem f204_0 {I : tI} {J : tJ} : f204_185 I J 0 = (1, tup I 185 2 0, J) := by
  unfold f204_185
  rw [n00, cond_false]
theorem TY_set {t : Nat} {s : Int32} {m : Nat} {I I' : tI} {J J' : tJ} (h : TY z Ic Ir Jc Jr) (ht : t < 4) (hs : s ≠ -1) (hm : m ≤ 60) (a1 : I = tup (tup Ic 6 t s) 7 t (Int32.ofNat m)) (a2 : I' = tup (tup Ir 188 t s) 189 t (Int32.ofNat m)) (b1 : ∀ o i, o ≠ 2 + t → J o i = Jc o i) (b2 : ∀ i, i < 60 → J (2 + t) i = 0) (b3 : ∀ o i, ¬ (o = 190 ∧ 60 * t + 0 ≤ i ∧ i < 60 * t + m) → J' o i = Jr o i) (b4 : ∀ i, 0 ≤ i → i < m → J' 190 (60 * t + i) = 0) : TY z I I' J J' := fun t' ht' => by
  subst a1 a2
  by_cases e : t' = t
  · subst e
    have g1 : tup (tup Ic 6 t' s) 7 t' (Int32.ofNat m) 6 t' = s := by rw [tup_ne (by omega), tup_eq]
    have g2 : tup (tup Ir 188 t' s) 189 t' (Int32.ofNat m) 188 t' = s := by rw [tup_ne (by omega), tup_eq]
    exact .inr ⟨by rw [g1]; exact hs, by rw [g1, g2], m, hm, tup_eq, tup_eq, fun _ i hi => by rw [b2 i (by omega), b4 i (by omega) hi]⟩
  · have g1 : tup (tup Ic 6 t s) 7 t (Int32.ofNat m) 6 t' = Ic 6 t' := by rw [tup_ne (by omega), tup_ne (by omega)]
    have g2 : tup (tup Ir 188 t s) 189 t (Int32.ofNat m) 188 t' = Ir 188 t' := by rw [tup_ne (by omega), tup_ne (by omega)]
    have g3 : tup (tup Ic 6 t s) 7 t (Int32.ofNat m) 7 t' = Ic 7 t' := by rw [tup_ne (by omega), tup_ne (by omega)]
    have g4 : tup (tup Ir 188 t s) 189 t (Int32.ofNat m) 189 t' = Ir 189 t' := by rw [tup_ne (by omega), tup_ne (by omega)]
    rcases h t' ht' with ⟨q1, q2⟩ | ⟨q1, q2, k, q3, q4, q5, q6⟩
    · exact .inl ⟨g1.trans q1, g4.trans q2⟩
    · refine .inr ⟨by rw [g1]; exact q1, by rw [g1, g2]; exact q2, k, q3, g3.trans q4, g4.trans q5, fun hz i hi => ?_⟩
      rw [b1 _ _ (by omega), b3 _ _ (by omega)]
      exact q6 hz i hi
theorem tray_rel {a b c : Int32} (hT : TY z Ic Ir Jc Jr) (hc : f134_0 N Ic Jc a b c = some (v, I1, J1)) (hr : f211_185 N' Ir Jr a b c = some (w, I2, J2)) : v = w ∧ TY z I1 I2 J1 J2 := by
  have z0 : (0 : Int32).toInt = 0 := rfl
  have z3 : (3 : Int32).toInt = 3 := rfl
  have z60 : (60 : Int32).toInt = 60 := rfl
  unfold f134_0 at hc
  unfold f211_185 at hr
  rw [f133_is] at hc
  rw [f209_is] at hr
  dsimp only at hc hr
  have rej : ∀ {s s' : Int32}, s' ≠ 0 → some (f124_0 Ic Jc s) = some (v, I1, J1) → some (f204_185 Ir Jr s') = some (w, I2, J2) → v = w ∧ TY z I1 I2 J1 J2 := fun hs h1 h2 => by
    rw [f204_1 hs] at h2
    cases h1
    cases h2
    exact ⟨rfl, TY_st hT⟩
  by_cases ha : 0 ≤ a.toInt ∧ a.toInt ≤ 3
  · obtain ⟨t, hb, rfl⟩ := nat_i ha.1
    rw [if_pos ha, e10, cond_false, f127_is, z0, z3] at hc
    rw [if_pos ha, e10, cond_false, tc_lt, tc_gt, z0, z3] at hr
    have ht : t < 4 := by
      rw [oi_int hb] at ha
      omega
    dsimp only at hc
    by_cases hb2 : 0 ≤ b.toInt ∧ b.toInt ≤ 3
    · rw [if_pos hb2, e10, cond_false, f127_is, z0, z60] at hc
      rw [decide_eq_false (by omega), cond_false, decide_eq_false (by omega), cond_false, tc_lt, tc_le, z0, z60] at hr
      dsimp only at hc
      by_cases hm2 : 0 ≤ c.toInt ∧ c.toInt ≤ 60
      · obtain ⟨m, hm, rfl⟩ := nat_i hm2.1
        rw [oi_int hm] at hm2 hr hc
        rw [if_pos hm2, n10, cond_true, oi_nat (by omega)] at hc
        rw [decide_eq_false (by omega), cond_false, decide_eq_true hm2.2, cond_true, oi_nat (by omega)] at hr
        have hs : b ≠ -1 := fun e => by
          rw [e] at hb2
          exact absurd hb2.1 (by decide)
        cases e2 : f211_185_l49 N' N' (tup (tup Ir 188 t b) 189 t (Int32.ofNat m)) Jr (Int32.ofNat t) (Int32.ofNat m) 0 with
        | none => rw [e2] at hr; cases hr
        | some Y =>
        obtain ⟨z1, z2, z3⟩ := zero_l ht (by omega) N' 0 (by omega) e2
        obtain ⟨y1, y2, y3, I3, J3⟩ := Y
        rw [e2] at hr
        dsimp only at hr z1 z2 z3
        rw [f204_0] at hr
        cases hr
        subst z1
        have fin : ∀ {I4 : tI} {J4 : tJ}, (I4 = tup (tup Ic 6 t b) 7 t (Int32.ofNat m) ∧ (∀ o i, o ≠ 2 + t → J4 o i = Jc o i) ∧ ∀ i, i < 60 → J4 (2 + t) i = 0) → some (f123_0 I4 J4) = some (v, I1, J1) → v = 1 ∧ TY z I1 (tup (tup (tup Ir 188 t b) 189 t (Int32.ofNat m)) 185 2 0) J1 J3 := fun hh h => by
          unfold f123_0 at h
          cases h
          exact ⟨rfl, TY_st (TY_set hT ht hs (by omega) hh.1 rfl hh.2.1 hh.2.2 z2 z3)⟩
        rcases (by omega : t = 0 ∨ t = 1 ∨ t = 2 ∨ t = 3) with rfl | rfl | rfl | rfl
        · cases e4 : f354_2 N (tup (tup Ic 6 0 b) 7 0 (Int32.ofNat m)) Jc 0 with
          | none => rw [show xcmp .eq (Int32.ofNat 0) 0 = true from rfl, cond_true, e4] at hc; cases hc
          | some Y =>
          obtain ⟨u, I4, J4⟩ := Y
          rw [show xcmp .eq (Int32.ofNat 0) 0 = true from rfl, cond_true, e4] at hc
          exact fin (fill2_ok e4) hc
        · cases e4 : f354_3 N (tup (tup Ic 6 1 b) 7 1 (Int32.ofNat m)) Jc 0 with
          | none => rw [show xcmp .eq (Int32.ofNat 1) 0 = false from rfl, cond_false, show xcmp .eq (Int32.ofNat 1) 1 = true from rfl, cond_true, e4] at hc; cases hc
          | some Y =>
          obtain ⟨u, I4, J4⟩ := Y
          rw [show xcmp .eq (Int32.ofNat 1) 0 = false from rfl, cond_false, show xcmp .eq (Int32.ofNat 1) 1 = true from rfl, cond_true, e4] at hc
          exact fin (fill3_ok e4) hc
        · cases e4 : f354_4 N (tup (tup Ic 6 2 b) 7 2 (Int32.ofNat m)) Jc 0 with
          | none => rw [show xcmp .eq (Int32.ofNat 2) 0 = false from rfl, cond_false, show xcmp .eq (Int32.ofNat 2) 1 = false from rfl, cond_false, show xcmp .eq (Int32.ofNat 2) 2 = true from rfl, cond_true, e4] at hc; cases hc
          | some Y =>
          obtain ⟨u, I4, J4⟩ := Y
          rw [show xcmp .eq (Int32.ofNat 2) 0 = false from rfl, cond_false, show xcmp .eq (Int32.ofNat 2) 1 = false from rfl, cond_false, show xcmp .eq (Int32.ofNat 2) 2 = true from rfl, cond_true, e4] at hc
          exact fin (fill4_ok e4) hc
        · cases e4 : f354_5 N (tup (tup Ic 6 3 b) 7 3 (Int32.ofNat m)) Jc 0 with
          | none => rw [show xcmp .eq (Int32.ofNat 3) 0 = false from rfl, cond_false, show xcmp .eq (Int32.ofNat 3) 1 = false from rfl, cond_false, show xcmp .eq (Int32.ofNat 3) 2 = false from rfl, cond_false, e4] at hc; cases hc
          | some Y =>
          obtain ⟨u, I4, J4⟩ := Y
          rw [show xcmp .eq (Int32.ofNat 3) 0 = false from rfl, cond_false, show xcmp .eq (Int32.ofNat 3) 1 = false from rfl, cond_false, show xcmp .eq (Int32.ofNat 3) 2 = false from rfl, cond_false, e4] at hc
          exact fin (fill5_ok e4) hc
      · rw [if_neg hm2, n00, cond_false] at hc
        by_cases q1 : c.toInt < 0
        · rw [decide_eq_true q1, cond_true] at hr
          exact rej (s := 1) (s' := 1) (by decide) hc hr
        · rw [decide_eq_false q1, cond_false, decide_eq_false (by omega), cond_false] at hr
          exact rej (s := 1) (s' := 1) (by decide) hc hr
    · rw [if_neg hb2, e00, cond_true] at hc
      by_cases q1 : b.toInt < 0
      · rw [decide_eq_true q1, cond_true] at hr
        exact rej (s := 1) (s' := 1) (by decide) hc hr
      · rw [decide_eq_false q1, cond_false, decide_eq_true (by omega), cond_true] at hr
        exact rej (s := 1) (s' := 1) (by decide) hc hr
  · rw [if_neg ha, e00, cond_true] at hc hr
    exact rej (s := 1) (s' := 1) (by decide) hc hr
/-- numbers moved within the reference's one row, this way or that -/
theorem move_l {N f t p q n : Nat} {J0 : tJ} (hf : f < 4) (ht : t < 4) (hp : p + n ≤ 60) (hq : q + n ≤ 60) : ∀ (k d : Nat) {I : tI} {J : tJ} {Y : Int32 × Int32 × Int32 × Int32 × Int32 × Int32 × tI × tJ}, d ≤ n → (q ≤ p → (∀ o i, ¬ (o = 190 ∧ 60 * t + q ≤ i ∧ i < 60 * t + q + d) → J o i = J0 o i) ∧ ∀ i, i < d → J 190 (60 * t + q + i) = J0 190 (60 * f + p + i)) → (p < q → (∀ o i, ¬ (o = 190 ∧ 60 * t + q + (n - d) ≤ i ∧ i < 60 * t + q + n) → J o i = J0 o i) ∧ ∀ i, n - d ≤ i → i < n → J 190 (60 * t + q + i) = J0 190 (60 * f + p + i)) → f215_185_l118 N k I J (Int32.ofNat f) (Int32.ofNat p) (Int32.ofNat t) (Int32.ofNat q) (Int32.ofNat n) (Int32.ofNat d) = some Y → Y.2.2.2.2.2.2.1 = I ∧ (∀ o i, ¬ (o = 190 ∧ 60 * t + q ≤ i ∧ i < 60 * t + q + n) → Y.2.2.2.2.2.2.2 o i = J0 o i) ∧ ∀ i, i < n → Y.2.2.2.2.2.2.2 190 (60 * t + q + i) = J0 190 (60 * f + p + i)
  | 0, _, _, _, _, _, _, _, h => by cases h
  | k + 1, d, I, J, Y, hd, h1, h2, h => by
    simp only [f215_185_l118] at h
    rw [oi_ge (by omega) (by omega), oi_ge (by omega) (by omega)] at h
    by_cases e : n ≤ d
    · have e' : d = n := by omega
      subst e'
      rw [decide_eq_true e, cond_true] at h
      cases h
      refine ⟨rfl, fun o i hn => ?_, fun i hi => ?_⟩
      · by_cases g : q ≤ p
        · exact (h1 g).1 o i hn
        · exact (h2 (by omega)).1 o i (fun z => hn ⟨z.1, by omega, z.2.2⟩)
      · by_cases g : q ≤ p
        · exact (h1 g).2 i hi
        · exact (h2 (by omega)).2 i (by omega) hi
    · have m60 : ∀ x, (60 : Int32) * Int32.ofNat x = Int32.ofNat (60 * x) := fun x => oi_mul (a := 60)
      rw [decide_eq_false e, cond_false] at h
      by_cases g : q ≤ p
      · rw [decide_eq_true g, cond_true, m60, m60, oi_add, oi_add, oi_add, oi_add, oi_nat (by omega), oi_nat (by omega), oi_suc (by omega)] at h
        obtain ⟨g1, g2⟩ := h1 g
        refine move_l hf ht hp hq k (d + 1) (by omega) (fun _ => ⟨fun o i hn => ?_, fun i hi => ?_⟩) (fun z => absurd g (by omega)) h
        · rw [tup_ne (fun z => hn ⟨z.1, by omega, by omega⟩)]
          exact g1 o i (fun z => hn ⟨z.1, z.2.1, by omega⟩)
        · by_cases e3 : i = d
          · rw [e3, tup_eq]
            exact g1 _ _ (by omega)
          · rw [tup_ne (by omega)]
            exact g2 i (by omega)
      · have e5 : Int32.ofNat n - 1 - Int32.ofNat d = Int32.ofNat (n - 1 - d) := by
          rw [show Int32.ofNat n - 1 = Int32.ofNat (n - 1) from ?_]
          · apply i32_eq
            rw [ti_sub (by rw [oi_int (by omega), oi_int (by omega)]; omega) (by rw [oi_int (by omega), oi_int (by omega)]; omega), oi_int (by omega), oi_int (by omega), oi_int (by omega)]
            omega
          · apply i32_eq
            rw [oi_sub1 (by omega), oi_int (by omega)]
            omega
        rw [decide_eq_false g, cond_false, e5, m60, m60, oi_add, oi_add, oi_add, oi_add, oi_nat (by omega), oi_nat (by omega), oi_suc (by omega)] at h
        obtain ⟨g1, g2⟩ := h2 (by omega)
        refine move_l hf ht hp hq k (d + 1) (by omega) (fun z => absurd z g) (fun _ => ⟨fun o i hn => ?_, fun i h3 h4 => ?_⟩) h
        · rw [tup_ne (fun z => hn ⟨z.1, by omega, by omega⟩)]
          exact g1 o i (fun z => hn ⟨z.1, by omega, z.2.2⟩)
        · by_cases e3 : i = n - 1 - d
          · rw [e3, tup_eq]
            exact g1 _ _ (by omega)
          · rw [tup_ne (by omega)]
            exact g2 i (by omega) h4
end TRZ
section TRP
variable {z : Prop} {N N' : Nat} {Ic Ir I1 I2 : tI} {Jc Jr J1 J2 : tJ} {v w : Int32}
theorem TY_mv {f t p q m : Nat} {J' : tJ} (h : TY z Ic Ir Jc Jr) (hf : f < 4) (ht : t < 4) (hp : p + m ≤ 60) (hq : q + m ≤ 60) (hc : z → ∀ i, i < m → Jc (2 + f) (p + i) = Jr 190 (60 * f + p + i)) (g1 : ∀ o i, ¬ (o = 190 ∧ 60 * t + q ≤ i ∧ i < 60 * t + q + m) → J' o i = Jr o i) (g2 : ∀ i, i < m → J' 190 (60 * t + q + i) = Jr 190 (60 * f + p + i)) : TY z Ic Ir (tcp Jc (2 + t) q (2 + f) p m) J' := fun t' ht' => by
  rcases h t' ht' with z | ⟨q1, q2, k, q3, q4, q5, q6⟩
  · exact .inl z
  · refine .inr ⟨q1, q2, k, q3, q4, q5, fun hz i hi => ?_⟩
    unfold tcp
    by_cases e : t' = t ∧ q ≤ i ∧ i < q + m
    · obtain ⟨rfl, e1, e2⟩ := e
      have g := g2 (i - q) (by omega)
      have c := hc hz (i - q) (by omega)
      rw [if_pos ⟨rfl, e1, e2⟩, c, ← g, show 60 * t' + q + (i - q) = 60 * t' + i from by omega]
    · rw [if_neg (by omega), g1 _ _ (by omega)]
      exact q6 hz i hi
theorem sub_gt {x : Int32} {m p : Nat} (hm : m ≤ 60) (hp : p < 2147483648) : xcmp .gt x (Int32.ofNat m - Int32.ofNat p) = decide ((m : Int) - p < x.toInt) ∧ xcmp .le x (Int32.ofNat m - Int32.ofNat p) = decide (x.toInt ≤ (m : Int) - p) := by
  have e : (Int32.ofNat m - Int32.ofNat p).toInt = (m : Int) - p := by
    rw [ti_sub (by rw [oi_int (by omega), oi_int (by omega)]; omega) (by rw [oi_int (by omega), oi_int (by omega)]; omega), oi_int (by omega), oi_int (by omega)]
  rw [tc_gt, tc_le, e]
  exact ⟨rfl, rfl⟩
theorem pour_rel {a b c d e : Int32} (hT : TY z Ic Ir Jc Jr) (hc : f137_0 Ic Jc a b c d e = (v, I1, J1)) (hr : f215_185 N' Ir Jr a b c d e = some (w, I2, J2)) : v = w ∧ TY z I1 I2 J1 J2 := by
  have z0 : (0 : Int32).toInt = 0 := rfl
  unfold f137_0 at hc
  unfold f215_185 at hr
  rw [f133_is] at hc
  rw [f209_is] at hr
  dsimp only at hc hr
  rw [f133_is] at hc
  rw [f209_is] at hr
  dsimp only at hc hr
  have rej : ∀ {s s' : Int32}, s' ≠ 0 → f124_0 Ic Jc s = (v, I1, J1) → some (f204_185 Ir Jr s') = some (w, I2, J2) → v = w ∧ TY z I1 I2 J1 J2 := fun hs h1 h2 => by
    rw [f204_1 hs] at h2
    cases h1
    cases h2
    exact ⟨rfl, TY_st hT⟩
  by_cases ha : 0 ≤ a.toInt ∧ a.toInt ≤ 3
  · rw [if_pos ha, e10, cond_false] at hc hr
    by_cases hcc : 0 ≤ c.toInt ∧ c.toInt ≤ 3
    · rw [if_pos hcc, e10, cond_false, tc_lt, tc_lt, tc_ge, z0] at hc hr
      obtain ⟨f, hf, rfl⟩ := nat_i ha.1
      obtain ⟨t, ht, rfl⟩ := nat_i hcc.1
      rw [oi_int hf] at ha
      rw [oi_int ht] at hcc
      rw [oi_nat hf, oi_nat ht] at hc hr
      by_cases hb : b.toInt < 0
      · rw [decide_eq_true hb, cond_true] at hc hr
        exact rej (s := 1) (s' := 1) (by decide) hc hr
      rw [decide_eq_false hb, cond_false] at hc hr
      by_cases hd : d.toInt < 0
      · rw [decide_eq_true hd, cond_true] at hc hr
        exact rej (s := 1) (s' := 1) (by decide) hc hr
      rw [decide_eq_false hd, cond_false] at hc hr
      by_cases he : 0 ≤ e.toInt
      · rw [decide_eq_true he, cond_true] at hc hr
        rcases hT f (by omega) with ⟨q1, q2⟩ | ⟨q1, q2, m, q3, q4, q5, q6⟩
        · rw [q1, show xcmp .eq (-1 : Int32) (-1) = true from rfl, cond_true] at hc
          rw [q2, show xcmp .eq (-1 : Int32) (-1) = true from rfl, cond_true] at hr
          exact rej (s := 2) (s' := 2) (by decide) hc hr
        rw [xc_eqn q1, cond_false] at hc
        rw [q5, xc_eqn (oi_m1 (by omega)), cond_false] at hr
        rcases hT t (by omega) with ⟨r1, r2⟩ | ⟨r1, r2, m', r3, r4, r5, r6⟩
        · rw [r1, show xcmp .ne (-1 : Int32) (-1) = false from rfl, cond_false] at hc
          rw [r2, show xcmp .ne (-1 : Int32) (-1) = false from rfl, cond_false] at hr
          exact rej (s := 2) (s' := 2) (by decide) hc hr
        rw [xc_ne r1, cond_true] at hc
        rw [r5, xc_ne (oi_m1 (by omega)), cond_true] at hr
        rw [← q2, ← r2] at hr
        by_cases hs : Ic 6 f = Ic 6 t
        · obtain ⟨p, hp, rfl⟩ := nat_i (a := b) (by omega)
          obtain ⟨q, hq, rfl⟩ := nat_i (a := d) (by omega)
          rw [xc_eq hs, cond_true, q4, r4, (sub_gt q3 hp).1, (sub_gt r3 hq).2] at hc
          rw [xc_eq hs, cond_true, (sub_gt q3 hp).1, (sub_gt r3 hq).2] at hr
          by_cases h3 : (m : Int) - p < e.toInt
          · rw [decide_eq_true h3, cond_true] at hc hr
            exact rej (s := 3) (s' := 3) (by decide) hc hr
          rw [decide_eq_false h3, cond_false] at hc hr
          by_cases h4 : e.toInt ≤ (m' : Int) - q
          · obtain ⟨n, hn, rfl⟩ := nat_i he
            rw [decide_eq_true h4, cond_true] at hc hr
            rw [oi_int hn] at h3 h4
            rw [oi_nat hp, oi_nat hq, oi_nat hn] at hc
            cases e2 : f215_185_l118 N' N' Ir Jr (Int32.ofNat f) (Int32.ofNat p) (Int32.ofNat t) (Int32.ofNat q) (Int32.ofNat n) 0 with
            | none => rw [e2] at hr; cases hr
            | some Y =>
            obtain ⟨z1, z2, z3⟩ := move_l (J0 := Jr) (f := f) (t := t) (p := p) (q := q) (n := n) (by omega) (by omega) (by omega) (by omega) N' 0 (by omega) (fun _ => ⟨fun _ _ _ => rfl, fun i hi => absurd hi (by omega)⟩) (fun _ => ⟨fun _ _ _ => rfl, fun i hi hi2 => absurd hi (by omega)⟩) e2
            obtain ⟨y1, y2, y3, y4, y5, y6, I3, J3⟩ := Y
            rw [e2] at hr
            dsimp only at hr z1 z2 z3
            rw [f204_0] at hr
            cases hr
            subst z1
            have hc' : ((1 : Int32), tup Ic 0 5 0, tcp Jc (2 + t) q (2 + f) p n) = (v, I1, J1) := by
              rw [← hc]
              rcases (by omega : f = 0 ∨ f = 1 ∨ f = 2 ∨ f = 3) with rfl | rfl | rfl | rfl <;> rcases (by omega : t = 0 ∨ t = 1 ∨ t = 2 ∨ t = 3) with rfl | rfl | rfl | rfl <;> rfl
            cases hc'
            exact ⟨rfl, TY_st (TY_mv hT (by omega) (by omega) (by omega) (by omega) (fun hz i hi => by rw [q6 hz (p + i) (by omega), Nat.add_assoc]) z2 z3)⟩
          · rw [decide_eq_false h4, cond_false] at hc hr
            exact rej (s := 3) (s' := 3) (by decide) hc hr
        · rw [xc_eqn hs, cond_false] at hc hr
          exact rej (s := 8) (s' := 8) (by decide) hc hr
      · rw [decide_eq_false he, cond_false] at hc hr
        exact rej (s := 1) (s' := 1) (by decide) hc hr
    · rw [if_neg hcc, e00, cond_true] at hc hr
      exact rej (s := 1) (s' := 1) (by decide) hc hr
  · rw [if_neg ha, e00, cond_true] at hc hr
    exact rej (s := 1) (s' := 1) (by decide) hc hr
end TRP
