/-! NAMES IN ROWS -/
theorem lgnn {a b : Int64} : xcmp .ne (lg_cmp a b) 0 = !decide (a = b) := by
  unfold lg_cmp
  by_cases e : a = b
  · rw [decide_eq_true e, if_neg (by rw [e]; exact Int64.lt_irrefl), if_pos e]
    rfl
  · rw [decide_eq_false e]
    by_cases g : a > b
    · rw [if_pos g]
      rfl
    · rw [if_neg g, if_neg e]
      rfl
/-- the first of a row that is so, or -1 -/
def fdN (P : Nat → Bool) : Nat → Nat → Int32
  | 0, _ => -1
  | f + 1, p => bif P p then Int32.ofNat p else fdN P f (p + 1)
theorem fdN_cg {P Q : Nat → Bool} {m : Nat} (h : ∀ i, i < m → P i = Q i) : ∀ (f p : Nat), f + p ≤ m → fdN P f p = fdN Q f p
  | 0, _, _ => rfl
  | f + 1, p, hm => by
    simp only [fdN]
    rw [h p (by omega), fdN_cg h f (p + 1) (by omega)]
theorem fdN_or {P : Nat → Bool} : ∀ (f p : Nat), (fdN P f p = -1 ∧ ∀ i, p ≤ i → i < p + f → P i = false) ∨ ∃ i, p ≤ i ∧ i < p + f ∧ fdN P f p = Int32.ofNat i ∧ P i = true
  | 0, p => Or.inl ⟨rfl, fun i h1 h2 => by omega⟩
  | f + 1, p => by
    simp only [fdN]
    by_cases h : P p = true
    · rw [h, cond_true]
      exact Or.inr ⟨p, Nat.le_refl _, by omega, rfl, h⟩
    · rw [Bool.eq_false_iff.mpr h, cond_false]
      rcases fdN_or (P := P) f (p + 1) with ⟨a, b⟩ | ⟨i, a, b, c, d⟩
      · refine Or.inl ⟨a, fun i h1 h2 => ?_⟩
        by_cases e : i = p
        · rw [e]
          exact Bool.eq_false_iff.mpr h
        · exact b i (by omega) (by omega)
      · exact Or.inr ⟨i, by omega, by omega, c, d⟩
theorem oi_add {a b : Nat} : Int32.ofNat a + Int32.ofNat b = Int32.ofNat (a + b) := (Int32.ofNat_add a b).symm
theorem oi_mul {a b : Nat} : Int32.ofNat a * Int32.ofNat b = Int32.ofNat (a * b) := (Int32.ofNat_mul a b).symm
theorem f40_39_run {N m : Nat} {x : Int64} {I : tI} {J : tJ} (hm : m ≤ 5) : ∀ (k p : Nat) {Y : Nat × Int32 × Int64 × Int32 × tI × tJ}, p ≤ m → f40_39_l3 N k I J (Int32.ofNat m) x (Int32.ofNat p) = some Y → Y.2.2.2.2 = (I, J) ∧ (if Y.1 = 0 then (-1 : Int32) else Y.2.2.2.1) = fdN (fun p => decide (J 39 p = x)) (m - p) p
  | 0, _, _, _, h => by cases h
  | k + 1, p, Y, hp, h => by
    simp only [f40_39_l3] at h
    rw [oi_ge (by omega) (by omega)] at h
    by_cases hpm : m ≤ p
    · rw [decide_eq_true hpm, cond_true] at h
      cases h
      rw [show m - p = 0 by omega]
      exact ⟨rfl, rfl⟩
    · rw [decide_eq_false hpm, cond_false, show xcmp .ge (Int32.ofNat p) 5 = decide (5 ≤ p) from oi_ge (q := 5) (by omega) (by omega), decide_eq_false (by omega), cond_false, oi_nat (by omega), oi_suc (by omega), lgnn] at h
      rw [show m - p = (m - (p + 1)) + 1 by omega]
      simp only [fdN]
      by_cases e : J 39 p = x
      · rw [decide_eq_true e, Bool.not_true, cond_false] at h
        cases h
        rw [decide_eq_true e, cond_true]
        exact ⟨rfl, rfl⟩
      · rw [decide_eq_false e, Bool.not_false, cond_true] at h
        rw [decide_eq_false e, cond_false]
        exact f40_39_run hm k (p + 1) (by omega) h
theorem f40_39_is {N m : Nat} {x : Int64} {I : tI} {J : tJ} {q : Int32 × tI × tJ} (hm : m ≤ 5) (h : f40_39 N I J (Int32.ofNat m) x = some q) : q = (fdN (fun p => decide (J 39 p = x)) m 0, I, J) := by
  unfold f40_39 at h
  cases hc : f40_39_l3 N N I J (Int32.ofNat m) x 0 with
  | none => rw [hc] at h; cases h
  | some Y =>
    rw [hc] at h
    obtain ⟨a, b⟩ := f40_39_run hm N 0 (Nat.zero_le _) hc
    obtain ⟨k1, y1, y2, y4, Ia, Ja⟩ := Y
    dsimp only at h a b
    cases a
    rw [Nat.sub_zero] at b
    rw [← b]
    cases hk : Nat.beq k1 0 with
    | true =>
      rw [hk, cond_true] at h
      rw [if_pos (Nat.eq_of_beq_eq_true hk)]
      cases h
      rfl
    | false =>
      rw [hk, cond_false] at h
      rw [if_neg (fun q => by rw [q] at hk; cases hk)]
      cases h
      rfl
theorem f40_48_run {N m : Nat} {x : Int64} {I : tI} {J : tJ} (hm : m ≤ 6) : ∀ (k p : Nat) {Y : Nat × Int32 × Int64 × Int32 × tI × tJ}, p ≤ m → f40_48_l3 N k I J (Int32.ofNat m) x (Int32.ofNat p) = some Y → Y.2.2.2.2 = (I, J) ∧ (if Y.1 = 0 then (-1 : Int32) else Y.2.2.2.1) = fdN (fun p => decide (J 48 p = x)) (m - p) p
  | 0, _, _, _, h => by cases h
  | k + 1, p, Y, hp, h => by
    simp only [f40_48_l3] at h
    rw [oi_ge (by omega) (by omega)] at h
    by_cases hpm : m ≤ p
    · rw [decide_eq_true hpm, cond_true] at h
      cases h
      rw [show m - p = 0 by omega]
      exact ⟨rfl, rfl⟩
    · rw [decide_eq_false hpm, cond_false, show xcmp .ge (Int32.ofNat p) 6 = decide (6 ≤ p) from oi_ge (q := 6) (by omega) (by omega), decide_eq_false (by omega), cond_false, oi_nat (by omega), oi_suc (by omega), lgnn] at h
      rw [show m - p = (m - (p + 1)) + 1 by omega]
      simp only [fdN]
      by_cases e : J 48 p = x
      · rw [decide_eq_true e, Bool.not_true, cond_false] at h
        cases h
        rw [decide_eq_true e, cond_true]
        exact ⟨rfl, rfl⟩
      · rw [decide_eq_false e, Bool.not_false, cond_true] at h
        rw [decide_eq_false e, cond_false]
        exact f40_48_run hm k (p + 1) (by omega) h
theorem f40_48_is {N m : Nat} {x : Int64} {I : tI} {J : tJ} {q : Int32 × tI × tJ} (hm : m ≤ 6) (h : f40_48 N I J (Int32.ofNat m) x = some q) : q = (fdN (fun p => decide (J 48 p = x)) m 0, I, J) := by
  unfold f40_48 at h
  cases hc : f40_48_l3 N N I J (Int32.ofNat m) x 0 with
  | none => rw [hc] at h; cases h
  | some Y =>
    rw [hc] at h
    obtain ⟨a, b⟩ := f40_48_run hm N 0 (Nat.zero_le _) hc
    obtain ⟨k1, y1, y2, y4, Ia, Ja⟩ := Y
    dsimp only at h a b
    cases a
    rw [Nat.sub_zero] at b
    rw [← b]
    cases hk : Nat.beq k1 0 with
    | true =>
      rw [hk, cond_true] at h
      rw [if_pos (Nat.eq_of_beq_eq_true hk)]
      cases h
      rfl
    | false =>
      rw [hk, cond_false] at h
      rw [if_neg (fun q => by rw [q] at hk; cases hk)]
      cases h
      rfl
theorem f40_57_run {N m : Nat} {x : Int64} {I : tI} {J : tJ} (hm : m ≤ 4) : ∀ (k p : Nat) {Y : Nat × Int32 × Int64 × Int32 × tI × tJ}, p ≤ m → f40_57_l3 N k I J (Int32.ofNat m) x (Int32.ofNat p) = some Y → Y.2.2.2.2 = (I, J) ∧ (if Y.1 = 0 then (-1 : Int32) else Y.2.2.2.1) = fdN (fun p => decide (J 57 p = x)) (m - p) p
  | 0, _, _, _, h => by cases h
  | k + 1, p, Y, hp, h => by
    simp only [f40_57_l3] at h
    rw [oi_ge (by omega) (by omega)] at h
    by_cases hpm : m ≤ p
    · rw [decide_eq_true hpm, cond_true] at h
      cases h
      rw [show m - p = 0 by omega]
      exact ⟨rfl, rfl⟩
    · rw [decide_eq_false hpm, cond_false, show xcmp .ge (Int32.ofNat p) 4 = decide (4 ≤ p) from oi_ge (q := 4) (by omega) (by omega), decide_eq_false (by omega), cond_false, oi_nat (by omega), oi_suc (by omega), lgnn] at h
      rw [show m - p = (m - (p + 1)) + 1 by omega]
      simp only [fdN]
      by_cases e : J 57 p = x
      · rw [decide_eq_true e, Bool.not_true, cond_false] at h
        cases h
        rw [decide_eq_true e, cond_true]
        exact ⟨rfl, rfl⟩
      · rw [decide_eq_false e, Bool.not_false, cond_true] at h
        rw [decide_eq_false e, cond_false]
        exact f40_57_run hm k (p + 1) (by omega) h
theorem f40_57_is {N m : Nat} {x : Int64} {I : tI} {J : tJ} {q : Int32 × tI × tJ} (hm : m ≤ 4) (h : f40_57 N I J (Int32.ofNat m) x = some q) : q = (fdN (fun p => decide (J 57 p = x)) m 0, I, J) := by
  unfold f40_57 at h
  cases hc : f40_57_l3 N N I J (Int32.ofNat m) x 0 with
  | none => rw [hc] at h; cases h
  | some Y =>
    rw [hc] at h
    obtain ⟨a, b⟩ := f40_57_run hm N 0 (Nat.zero_le _) hc
    obtain ⟨k1, y1, y2, y4, Ia, Ja⟩ := Y
    dsimp only at h a b
    cases a
    rw [Nat.sub_zero] at b
    rw [← b]
    cases hk : Nat.beq k1 0 with
    | true =>
      rw [hk, cond_true] at h
      rw [if_pos (Nat.eq_of_beq_eq_true hk)]
      cases h
      rfl
    | false =>
      rw [hk, cond_false] at h
      rw [if_neg (fun q => by rw [q] at hk; cases hk)]
      cases h
      rfl
theorem f232_run {N m b : Nat} {x : Int64} {I : tI} {J : tJ} (hm : b + m ≤ 90) (hn : ∀ N q, f231_185 N I J = some q → q = (x, I, J)) : ∀ (k p : Nat) {Y : Nat × Int32 × Int32 × Int32 × tI × tJ}, p ≤ m → f232_185_l2 N k I J (Int32.ofNat b) (Int32.ofNat m) (Int32.ofNat p) = some Y → Y.2.2.2.2 = (I, J) ∧ (if Y.1 = 0 then (-1 : Int32) else Y.2.2.2.1) = fdN (fun p => decide (J 187 (b + p) = x)) (m - p) p
  | 0, _, _, _, h => by cases h
  | k + 1, p, Y, hp, h => by
    simp only [f232_185_l2] at h
    rw [oi_ge (by omega) (by omega)] at h
    by_cases hpm : m ≤ p
    · rw [decide_eq_true hpm, cond_true] at h
      cases h
      rw [show m - p = 0 by omega]
      exact ⟨rfl, rfl⟩
    · rw [decide_eq_false hpm, cond_false] at h
      replace h := obL h
      obtain ⟨v2, I2, J2, e2, h⟩ := h
      have e3 := hn _ _ e2
      cases e3
      rw [oi_add, oi_nat (by omega), oi_suc (by omega), lgnn] at h
      rw [show m - p = (m - (p + 1)) + 1 by omega]
      simp only [fdN]
      by_cases e : J 187 (b + p) = x
      · rw [decide_eq_true e, Bool.not_true, cond_false] at h
        cases h
        rw [decide_eq_true e, cond_true]
        exact ⟨rfl, rfl⟩
      · rw [decide_eq_false e, Bool.not_false, cond_true] at h
        rw [decide_eq_false e, cond_false]
        exact f232_run hm hn k (p + 1) (by omega) h
theorem f232_is {N m b : Nat} {x : Int64} {I : tI} {J : tJ} {q : Int32 × tI × tJ} (hm : b + m ≤ 90) (hn : ∀ N q, f231_185 N I J = some q → q = (x, I, J)) (h : f232_185 N I J (Int32.ofNat b) (Int32.ofNat m) = some q) : q = (fdN (fun p => decide (J 187 (b + p) = x)) m 0, I, J) := by
  unfold f232_185 at h
  cases hc : f232_185_l2 N N I J (Int32.ofNat b) (Int32.ofNat m) 0 with
  | none => rw [hc] at h; cases h
  | some Y =>
    rw [hc] at h
    obtain ⟨a, c⟩ := f232_run hm hn N 0 (Nat.zero_le _) hc
    obtain ⟨k1, y1, y2, y4, Ia, Ja⟩ := Y
    dsimp only at h a c
    cases a
    rw [Nat.sub_zero] at c
    rw [← c]
    cases hk : Nat.beq k1 0 with
    | true =>
      rw [hk, cond_true] at h
      rw [if_pos (Nat.eq_of_beq_eq_true hk)]
      cases h
      rfl
    | false =>
      rw [hk, cond_false] at h
      rw [if_neg (fun q => by rw [q] at hk; cases hk)]
      cases h
      rfl
section PN
variable {t : Nat → Int32} {n N N' : Nat} {Ic Ir I1 I2 : tI} {Jc Jr J1 J2 : tJ} {v w : Int32} {b : Int}
/-- a name stands here: what both make of it -/
def NT (Jc : tJ) (Ir : tI) (Jr : tJ) : Prop := ∃ wd, isWd wd ∧ Jc 8 6 = e5 wd 0 ∧ ∀ N q, f231_185 N Ir Jr = some q → q = (e8 wd 0, Ir, Jr)
theorem oi_sub_gt {p s : Nat} {c : Int32} {d : Nat} (hc : c.toInt = d) (hs : s ≤ p) (hp : p < 2147483648) : xcmp .gt (Int32.ofNat p - Int32.ofNat s) c = decide (d < p - s) := by
  rw [tc_gt, ti_sub (by rw [oi_int hp, oi_int (by omega)]; omega) (by rw [oi_int hp, oi_int (by omega)]; omega), oi_int hp, oi_int (by omega), hc]
  exact decide_eq_decide.mpr (by omega)
theorem nm_c (h : R0 t n b Ic Jc Ir) (hc : f38_8 Ic Jc = (v, I1, J1)) : (v = 0 ∧ RF t I1 (f225_185 Ir Jr 2).2.1 ∧ ∀ N q, f230_185_1002 N Ir Jr = some q → q = (0, Ir, Jr)) ∨ (v = 1 ∧ I1 = Ic ∧ J1 = Jc ∧ NT Jc Ir Jr ∧ ∀ N q, f230_185_1002 N Ir Jr = some q → q = (1, Ir, Jr)) := by
  obtain ⟨s, e, hse, hen, h3, h13, h4, h14, hk⟩ := RT_cases h.1
  obtain ⟨⟨hn9, hb, ⟨-, h11⟩, ⟨-, ht'⟩, -⟩, -⟩ := id h
  have hF : RF t (f33_8 Ic Jc 2).2.1 (f225_185 Ir Jr 2).2.1 := by
    rw [f33_is, f225_is h.2.1]
    exact RF_of h (by decide)
  unfold f38_8 at hc
  have fail : (match f33_8 Ic Jc 2 with | (v2, I2, J2) => bif xcmp .eq v2 0 then ((0 : Int32), I2, J2) else (1, I2, J2)) = (v, I1, J1) → v = 0 ∧ RF t I1 (f225_185 Ir Jr 2).2.1 := fun q => by
    rw [f33_is] at q hF
    dsimp only at q hF
    rw [show xcmp .eq (0 : Int32) 0 = true from rfl, cond_true] at q
    cases q
    exact ⟨rfl, hF⟩
  have bad : Ic 8 2 ≠ 1 → Ir 185 12 ≠ 2 → (v = 0 ∧ RF t I1 (f225_185 Ir Jr 2).2.1 ∧ ∀ N q, f230_185_1002 N Ir Jr = some q → q = (0, Ir, Jr)) ∨ (v = 1 ∧ I1 = Ic ∧ J1 = Jc ∧ NT Jc Ir Jr ∧ ∀ N q, f230_185_1002 N Ir Jr = some q → q = (1, Ir, Jr)) := fun a b => by
    rw [xc_ne a, cond_true] at hc
    obtain ⟨g1, g2⟩ := fail hc
    refine Or.inl ⟨g1, g2, fun N q hr => ?_⟩
    unfold f230_185_1002 at hr
    rw [xc_ne b, cond_true] at hr
    cases hr
    rfl
  rcases hk with ⟨a, b, c⟩ | ⟨a, b, c, d, hlt, he⟩ | ⟨a, b, c, d⟩ | ⟨a, b, c, d⟩ | ⟨a, b, c⟩
  · exact bad (by rw [a]; decide) (by rw [b]; decide)
  · rw [xc_nen a, cond_false] at hc
    by_cases hl : e - s ≤ 8
    · by_cases q : Ic 8 5 = -1
      · rw [xc_nen q, cond_false, h4, h3, oi_sub_le (d := 8) rfl hse (by omega), decide_eq_true hl, cond_true] at hc
        cases hc
        refine Or.inr ⟨rfl, rfl, rfl, ⟨twS t s (e - s), ⟨twS_lt _ _ (fun i g1 g2 => lxW_lt (n - s) s i g1 (by rw [← he]; omega)), by rw [twS_len]; omega, by rw [twS_len]; exact hl⟩, ?_, fun N q hq => f231_is hn9 hse hen h11 h13 h14 ht' hq⟩, fun N qq hr => ?_⟩
        · rw [d, lxN_e5 (n - s) s 0 (Nat.le_refl _) (by rw [← he]; exact hl), ← he]
        · unfold f230_185_1002 at hr
          rw [xc_nen b, cond_false, h14, h13, oi_sub_gt (d := 8) rfl hse (by omega), decide_eq_false (by omega), cond_false] at hr
          replace hr := obI hr
          obtain ⟨w1, Ia, Ja, e1, hr⟩ := hr
          obtain ⟨ww, eq, hRW⟩ := RT_word h.1 e1
          cases eq
          rw [xc_nen ((RW_none hRW).mpr q), cond_false] at hr
          cases hr
          rfl
      · rw [xc_ne q, cond_true] at hc
        obtain ⟨g1, g2⟩ := fail hc
        refine Or.inl ⟨g1, g2, fun N qq hr => ?_⟩
        unfold f230_185_1002 at hr
        rw [xc_nen b, cond_false, h14, h13, oi_sub_gt (d := 8) rfl hse (by omega), decide_eq_false (by omega), cond_false] at hr
        replace hr := obI hr
        obtain ⟨w1, Ia, Ja, e1, hr⟩ := hr
        obtain ⟨ww, eq, hRW⟩ := RT_word h.1 e1
        cases eq
        rw [xc_ne (fun q' => q ((RW_none hRW).mp q')), cond_true] at hr
        cases hr
        rfl
    · have hv : v = 0 ∧ RF t I1 (f225_185 Ir Jr 2).2.1 := by
        by_cases q : Ic 8 5 = -1
        · rw [xc_nen q, cond_false, h4, h3, oi_sub_le (d := 8) rfl hse (by omega), decide_eq_false hl, cond_false] at hc
          exact fail hc
        · rw [xc_ne q, cond_true] at hc
          exact fail hc
      refine Or.inl ⟨hv.1, hv.2, fun N qq hr => ?_⟩
      unfold f230_185_1002 at hr
      rw [xc_nen b, cond_false, h14, h13, oi_sub_gt (d := 8) rfl hse (by omega), decide_eq_true (by omega), cond_true] at hr
      cases hr
      rfl
  · exact bad (by rw [a]; decide) (by rw [b]; decide)
  · exact bad (by rw [a]; decide) (by rw [b]; decide)
  · exact bad (by rw [a]; decide) (by rw [b]; decide)
theorem nm_rel (h : R0 t n b Ic Jc Ir) (hc : f38_8 Ic Jc = (v, I1, J1)) (hr : f230_185_1002 N Ir Jr = some (w, I2, J2)) : I2 = Ir ∧ J2 = Jr ∧ ((v = 0 ∧ w = 0 ∧ RF t I1 (f225_185 Ir Jr 2).2.1) ∨ (v = 1 ∧ w = 1 ∧ I1 = Ic ∧ J1 = Jc ∧ NT Jc Ir Jr)) := by
  rcases nm_c (Jr := Jr) h hc with ⟨a, b, c⟩ | ⟨a, b, c, d, e⟩
  · have := c _ _ hr
    cases this
    exact ⟨rfl, rfl, Or.inl ⟨a, rfl, b⟩⟩
  · have := e _ _ hr
    cases this
    exact ⟨rfl, rfl, Or.inr ⟨a, rfl, b, c, d⟩⟩
theorem fd_rel {o m b : Nat} {x y : Int64} (hb : ∀ p, p < m → RN (Jc o p) (Jr 187 (b + p))) (hx : RN x y) : fdN (fun p => decide (Jc o p = x)) m 0 = fdN (fun p => decide (Jr 187 (b + p) = y)) m 0 :=
  fdN_cg (m := m) (fun i hi => decide_eq_decide.mpr (RN_iff (hb i hi) hx)) m 0 (by omega)
end PN
