/-! ONE THAT IS KNOWN: of the world's persons, sights, buyers -/
section OLD
variable {t : Nat → Int32} {n N N' P S B W D : Nat} {Ic Ir I1 I2 : tI} {Jc Jr J1 J2 : tJ} {v w : Int32} {b : Int}
theorem f40_31_run {N m : Nat} {x : Int64} {I : tI} {J : tJ} (hm : m ≤ 4) : ∀ (k p : Nat) {Y : Nat × Int32 × Int64 × Int32 × tI × tJ}, p ≤ m → f40_31_l3 N k I J (Int32.ofNat m) x (Int32.ofNat p) = some Y → Y.2.2.2.2 = (I, J) ∧ (if Y.1 = 0 then (-1 : Int32) else Y.2.2.2.1) = fdN (fun p => decide (J 31 p = x)) (m - p) p
  | 0, _, _, _, h => by cases h
  | k + 1, p, Y, hp, h => by
    simp only [f40_31_l3] at h
    rw [oi_ge (by omega) (by omega)] at h
    by_cases hpm : m ≤ p
    · rw [decide_eq_true hpm, cond_true] at h
      cases h
      rw [show m - p = 0 by omega]
      exact ⟨rfl, rfl⟩
    · rw [decide_eq_false hpm, cond_false, show xcmp .ge (Int32.ofNat p) 4 = decide (4 ≤ p) from oi_ge (q := 4) (by omega) (by omega), decide_eq_false (by omega), cond_false, oi_nat (by omega), oi_suc (by omega), lgnn] at h
      rw [show m - p = (m - (p + 1)) + 1 by omega]
      simp only [fdN]
      by_cases e : J 31 p = x
      · rw [decide_eq_true e, Bool.not_true, cond_false] at h
        cases h
        rw [decide_eq_true e, cond_true]
        exact ⟨rfl, rfl⟩
      · rw [decide_eq_false e, Bool.not_false, cond_true] at h
        rw [decide_eq_false e, cond_false]
        exact f40_31_run hm k (p + 1) (by omega) h
theorem f40_31_is {N m : Nat} {x : Int64} {I : tI} {J : tJ} {q : Int32 × tI × tJ} (hm : m ≤ 4) (h : f40_31 N I J (Int32.ofNat m) x = some q) : q = (fdN (fun p => decide (J 31 p = x)) m 0, I, J) := by
  unfold f40_31 at h
  cases hc : f40_31_l3 N N I J (Int32.ofNat m) x 0 with
  | none => rw [hc] at h; cases h
  | some Y =>
    rw [hc] at h
    obtain ⟨a, b⟩ := f40_31_run hm N 0 (Nat.zero_le _) hc
    obtain ⟨k1, y1, y2, y4, Ia, Ja⟩ := Y
    dsimp only at h a b
    cases a
    rw [Nat.sub_zero] at b
    rw [← b]
    cases hk : Nat.beq k1 0 with
    | true =>
      rw [hk, cond_true] at h
      rw [if_pos (Nat.eq_of_beq_eq_true hk)]
      cases h
      rfl
    | false =>
      rw [hk, cond_false] at h
      rw [if_neg (fun q => by rw [q] at hk; cases hk)]
      cases h
      rfl
/-- a person that is told: the class keeps which, and passes him later -/
theorem old_c_31 (h : R0 t n b Ic Jc Ir) (hP : P ≤ 4) (hn : ∀ p, p < P → RN (Jc 31 p) (Jr 187 (11 + p))) (hc : f39_8_31 N Ic Jc (Int32.ofNat P) = some (v, I1, J1)) : (v = 0 ∧ RF t I1 (f225_185 Ir Jr 2).2.1 ∧ ∀ N q, f230_185_1002 N Ir Jr = some q → q = (0, Ir, Jr)) ∨ ((∀ N q, f230_185_1002 N Ir Jr = some q → q = (1, Ir, Jr)) ∧ ∃ ix, (∀ N q, f232_185 N Ir Jr 11 (Int32.ofNat P) = some q → q = (ix, Ir, Jr)) ∧ ((ix = -1 ∧ v = 0 ∧ (∀ x y : Int32, x ≠ 186 → True) ∧ ∀ to : Nat, 2480 ≤ to → RF t I1 (f225_185 (tup Ir 186 to ix) Jr 3).2.1) ∨ ∃ a, a < P ∧ ix = Int32.ofNat a ∧ v = 1 ∧ I1 = tup Ic 8 8 ix ∧ J1 = Jc)) := by
  unfold f39_8_31 at hc
  obtain ⟨⟨y1, Ia, Ja⟩, a1⟩ := exq (f38_8 Ic Jc)
  rw [a1] at hc
  dsimp only at hc
  rcases nm_c (Jr := Jr) h a1 with ⟨rfl, hF, g⟩ | ⟨rfl, rfl, rfl, ⟨wd, hwd, n5', n8'⟩, g⟩
  · rw [n00, cond_false] at hc
    cases hc
    exact Or.inl ⟨rfl, hF, g⟩
  · rw [n10, cond_true] at hc
    replace hc := obI hc
    obtain ⟨y2, Ib, Jb, a2, hc⟩ := hc
    have e := f40_31_is hP a2
    cases e
    have hx : RN (Ja 8 6) (e8 wd 0) := ⟨wd, hwd, n5', rfl⟩
    rw [fd_rel (o := 31) (b := 11) hn hx] at hc
    refine Or.inr ⟨g, fdN (fun p => decide (Jr 187 (11 + p) = e8 wd 0)) P 0, fun N q hq => f232_is (b := 11) (by omega) n8' hq, ?_⟩
    rcases fdN_or (P := fun p => decide (Jr 187 (11 + p) = e8 wd 0)) P 0 with ⟨k1, -⟩ | ⟨i, -, k2, k3, -⟩
    · rw [k1, show xcmp .ne (-1 : Int32) (-1) = false from rfl, cond_false, f33_is] at hc
      dsimp only at hc
      rw [q00, cond_true] at hc
      cases hc
      refine Or.inl ⟨k1, rfl, fun _ _ _ => trivial, fun to hto => ?_⟩
      rw [k1]
      have r1 : R0 t n b (tup Ia 8 8 (-1)) J1 (tup Ir 186 to (-1)) := R0_cg h (fun k _ => tup_ne (by omega)) (fun o k ho => tup_ne (by omega)) rfl (fun k _ _ => tup_ne (by omega)) (fun o k ho => tup_ne (by omega))
      rw [f225_is r1.2.1]
      exact RF_of r1 (by decide)
    · rw [k3, xc_ne (oi_m1 (by omega)), cond_true] at hc
      cases hc
      exact Or.inr ⟨i, by omega, k3, rfl, by rw [k3], rfl⟩
theorem old_rel_31 {to : Nat} (hto : 2480 ≤ to ∧ to < 3972) (h : R0 t n b Ic Jc Ir) (hP : P ≤ 4) (hn : ∀ p, p < P → RN (Jc 31 p) (Jr 187 (11 + p))) (hc : f39_8_31 N Ic Jc (Int32.ofNat P) = some (v, I1, J1)) (hr : f245_185 N' Ir Jr 11 (Int32.ofNat P) (Int32.ofNat to) = some (w, I2, J2)) : OUT t v w I1 I2 (∃ a, a < P ∧ I1 = tup Ic 8 8 (Int32.ofNat a) ∧ J1 = Jc ∧ f222_185 N' (tup Ir 186 to (Int32.ofNat a)) Jr = some ((), I2, J2)) := by
  unfold f245_185 at hr
  replace hr := obI hr
  obtain ⟨y1, Ia, Ja, b1, hr⟩ := hr
  rcases old_c_31 (Jr := Jr) h hP hn hc with ⟨rfl, hF, g⟩ | ⟨g, ix, gi, g2⟩
  · have e := g _ _ b1
    cases e
    rw [n00, cond_false] at hr
    rw [f225_is h.2.1] at hr hF
    dsimp only at hr
    cases hr
    exact Or.inl ⟨rfl, rfl, hF⟩
  · have e := g _ _ b1
    cases e
    rw [n10, cond_true] at hr
    replace hr := obI hr
    obtain ⟨y2, Ib, Jb, b2, hr⟩ := hr
    have e := gi _ _ b2
    cases e
    rw [oi_nat (by omega), tup_eq] at hr
    rcases g2 with ⟨rfl, rfl, -, hF⟩ | ⟨a, ha, rfl, rfl, rfl, rfl⟩
    · rw [show xcmp .ne (-1 : Int32) (-1) = false from rfl, cond_false] at hr
      have hF := hF to hto.1
      have r2 : (tup Ir 186 to (-1)) 185 18 = 0 := by rw [tup_ne (by omega)]; exact h.2.1
      rw [f225_is r2] at hr hF
      dsimp only at hr
      cases hr
      exact Or.inl ⟨rfl, rfl, hF⟩
    · rw [xc_ne (oi_m1 (by omega)), cond_true] at hr
      replace hr := obU hr
      obtain ⟨u, Id, Jd, b3, hr⟩ := hr
      cases hr
      exact Or.inr ⟨rfl, rfl, a, ha, rfl, rfl, b3⟩
theorem f40_13_run {N m : Nat} {x : Int64} {I : tI} {J : tJ} (hm : m ≤ 5) : ∀ (k p : Nat) {Y : Nat × Int32 × Int64 × Int32 × tI × tJ}, p ≤ m → f40_13_l3 N k I J (Int32.ofNat m) x (Int32.ofNat p) = some Y → Y.2.2.2.2 = (I, J) ∧ (if Y.1 = 0 then (-1 : Int32) else Y.2.2.2.1) = fdN (fun p => decide (J 13 p = x)) (m - p) p
  | 0, _, _, _, h => by cases h
  | k + 1, p, Y, hp, h => by
    simp only [f40_13_l3] at h
    rw [oi_ge (by omega) (by omega)] at h
    by_cases hpm : m ≤ p
    · rw [decide_eq_true hpm, cond_true] at h
      cases h
      rw [show m - p = 0 by omega]
      exact ⟨rfl, rfl⟩
    · rw [decide_eq_false hpm, cond_false, show xcmp .ge (Int32.ofNat p) 5 = decide (5 ≤ p) from oi_ge (q := 5) (by omega) (by omega), decide_eq_false (by omega), cond_false, oi_nat (by omega), oi_suc (by omega), lgnn] at h
      rw [show m - p = (m - (p + 1)) + 1 by omega]
      simp only [fdN]
      by_cases e : J 13 p = x
      · rw [decide_eq_true e, Bool.not_true, cond_false] at h
        cases h
        rw [decide_eq_true e, cond_true]
        exact ⟨rfl, rfl⟩
      · rw [decide_eq_false e, Bool.not_false, cond_true] at h
        rw [decide_eq_false e, cond_false]
        exact f40_13_run hm k (p + 1) (by omega) h
theorem f40_13_is {N m : Nat} {x : Int64} {I : tI} {J : tJ} {q : Int32 × tI × tJ} (hm : m ≤ 5) (h : f40_13 N I J (Int32.ofNat m) x = some q) : q = (fdN (fun p => decide (J 13 p = x)) m 0, I, J) := by
  unfold f40_13 at h
  cases hc : f40_13_l3 N N I J (Int32.ofNat m) x 0 with
  | none => rw [hc] at h; cases h
  | some Y =>
    rw [hc] at h
    obtain ⟨a, b⟩ := f40_13_run hm N 0 (Nat.zero_le _) hc
    obtain ⟨k1, y1, y2, y4, Ia, Ja⟩ := Y
    dsimp only at h a b
    cases a
    rw [Nat.sub_zero] at b
    rw [← b]
    cases hk : Nat.beq k1 0 with
    | true =>
      rw [hk, cond_true] at h
      rw [if_pos (Nat.eq_of_beq_eq_true hk)]
      cases h
      rfl
    | false =>
      rw [hk, cond_false] at h
      rw [if_neg (fun q => by rw [q] at hk; cases hk)]
      cases h
      rfl
/-- a person that is told: the class keeps which, and passes him later -/
theorem old_c_13 (h : R0 t n b Ic Jc Ir) (hP : P ≤ 5) (hn : ∀ p, p < P → RN (Jc 13 p) (Jr 187 (0 + p))) (hc : f39_8_13 N Ic Jc (Int32.ofNat P) = some (v, I1, J1)) : (v = 0 ∧ RF t I1 (f225_185 Ir Jr 2).2.1 ∧ ∀ N q, f230_185_1002 N Ir Jr = some q → q = (0, Ir, Jr)) ∨ ((∀ N q, f230_185_1002 N Ir Jr = some q → q = (1, Ir, Jr)) ∧ ∃ ix, (∀ N q, f232_185 N Ir Jr 0 (Int32.ofNat P) = some q → q = (ix, Ir, Jr)) ∧ ((ix = -1 ∧ v = 0 ∧ (∀ x y : Int32, x ≠ 186 → True) ∧ ∀ to : Nat, 2480 ≤ to → RF t I1 (f225_185 (tup Ir 186 to ix) Jr 3).2.1) ∨ ∃ a, a < P ∧ ix = Int32.ofNat a ∧ v = 1 ∧ I1 = tup Ic 8 8 ix ∧ J1 = Jc)) := by
  unfold f39_8_13 at hc
  obtain ⟨⟨y1, Ia, Ja⟩, a1⟩ := exq (f38_8 Ic Jc)
  rw [a1] at hc
  dsimp only at hc
  rcases nm_c (Jr := Jr) h a1 with ⟨rfl, hF, g⟩ | ⟨rfl, rfl, rfl, ⟨wd, hwd, n5', n8'⟩, g⟩
  · rw [n00, cond_false] at hc
    cases hc
    exact Or.inl ⟨rfl, hF, g⟩
  · rw [n10, cond_true] at hc
    replace hc := obI hc
    obtain ⟨y2, Ib, Jb, a2, hc⟩ := hc
    have e := f40_13_is hP a2
    cases e
    have hx : RN (Ja 8 6) (e8 wd 0) := ⟨wd, hwd, n5', rfl⟩
    rw [fd_rel (o := 13) (b := 0) hn hx] at hc
    refine Or.inr ⟨g, fdN (fun p => decide (Jr 187 (0 + p) = e8 wd 0)) P 0, fun N q hq => f232_is (b := 0) (by omega) n8' hq, ?_⟩
    rcases fdN_or (P := fun p => decide (Jr 187 (0 + p) = e8 wd 0)) P 0 with ⟨k1, -⟩ | ⟨i, -, k2, k3, -⟩
    · rw [k1, show xcmp .ne (-1 : Int32) (-1) = false from rfl, cond_false, f33_is] at hc
      dsimp only at hc
      rw [q00, cond_true] at hc
      cases hc
      refine Or.inl ⟨k1, rfl, fun _ _ _ => trivial, fun to hto => ?_⟩
      rw [k1]
      have r1 : R0 t n b (tup Ia 8 8 (-1)) J1 (tup Ir 186 to (-1)) := R0_cg h (fun k _ => tup_ne (by omega)) (fun o k ho => tup_ne (by omega)) rfl (fun k _ _ => tup_ne (by omega)) (fun o k ho => tup_ne (by omega))
      rw [f225_is r1.2.1]
      exact RF_of r1 (by decide)
    · rw [k3, xc_ne (oi_m1 (by omega)), cond_true] at hc
      cases hc
      exact Or.inr ⟨i, by omega, k3, rfl, by rw [k3], rfl⟩
theorem old_rel_13 {to : Nat} (hto : 2480 ≤ to ∧ to < 3972) (h : R0 t n b Ic Jc Ir) (hP : P ≤ 5) (hn : ∀ p, p < P → RN (Jc 13 p) (Jr 187 (0 + p))) (hc : f39_8_13 N Ic Jc (Int32.ofNat P) = some (v, I1, J1)) (hr : f245_185 N' Ir Jr 0 (Int32.ofNat P) (Int32.ofNat to) = some (w, I2, J2)) : OUT t v w I1 I2 (∃ a, a < P ∧ I1 = tup Ic 8 8 (Int32.ofNat a) ∧ J1 = Jc ∧ f222_185 N' (tup Ir 186 to (Int32.ofNat a)) Jr = some ((), I2, J2)) := by
  unfold f245_185 at hr
  replace hr := obI hr
  obtain ⟨y1, Ia, Ja, b1, hr⟩ := hr
  rcases old_c_13 (Jr := Jr) h hP hn hc with ⟨rfl, hF, g⟩ | ⟨g, ix, gi, g2⟩
  · have e := g _ _ b1
    cases e
    rw [n00, cond_false] at hr
    rw [f225_is h.2.1] at hr hF
    dsimp only at hr
    cases hr
    exact Or.inl ⟨rfl, rfl, hF⟩
  · have e := g _ _ b1
    cases e
    rw [n10, cond_true] at hr
    replace hr := obI hr
    obtain ⟨y2, Ib, Jb, b2, hr⟩ := hr
    have e := gi _ _ b2
    cases e
    rw [oi_nat (by omega), tup_eq] at hr
    rcases g2 with ⟨rfl, rfl, -, hF⟩ | ⟨a, ha, rfl, rfl, rfl, rfl⟩
    · rw [show xcmp .ne (-1 : Int32) (-1) = false from rfl, cond_false] at hr
      have hF := hF to hto.1
      have r2 : (tup Ir 186 to (-1)) 185 18 = 0 := by rw [tup_ne (by omega)]; exact h.2.1
      rw [f225_is r2] at hr hF
      dsimp only at hr
      cases hr
      exact Or.inl ⟨rfl, rfl, hF⟩
    · rw [xc_ne (oi_m1 (by omega)), cond_true] at hr
      replace hr := obU hr
      obtain ⟨u, Id, Jd, b3, hr⟩ := hr
      cases hr
      exact Or.inr ⟨rfl, rfl, a, ha, rfl, rfl, b3⟩
theorem f40_22_run {N m : Nat} {x : Int64} {I : tI} {J : tJ} (hm : m ≤ 6) : ∀ (k p : Nat) {Y : Nat × Int32 × Int64 × Int32 × tI × tJ}, p ≤ m → f40_22_l3 N k I J (Int32.ofNat m) x (Int32.ofNat p) = some Y → Y.2.2.2.2 = (I, J) ∧ (if Y.1 = 0 then (-1 : Int32) else Y.2.2.2.1) = fdN (fun p => decide (J 22 p = x)) (m - p) p
  | 0, _, _, _, h => by cases h
  | k + 1, p, Y, hp, h => by
    simp only [f40_22_l3] at h
    rw [oi_ge (by omega) (by omega)] at h
    by_cases hpm : m ≤ p
    · rw [decide_eq_true hpm, cond_true] at h
      cases h
      rw [show m - p = 0 by omega]
      exact ⟨rfl, rfl⟩
    · rw [decide_eq_false hpm, cond_false, show xcmp .ge (Int32.ofNat p) 6 = decide (6 ≤ p) from oi_ge (q := 6) (by omega) (by omega), decide_eq_false (by omega), cond_false, oi_nat (by omega), oi_suc (by omega), lgnn] at h
      rw [show m - p = (m - (p + 1)) + 1 by omega]
      simp only [fdN]
      by_cases e : J 22 p = x
      · rw [decide_eq_true e, Bool.not_true, cond_false] at h
        cases h
        rw [decide_eq_true e, cond_true]
        exact ⟨rfl, rfl⟩
      · rw [decide_eq_false e, Bool.not_false, cond_true] at h
        rw [decide_eq_false e, cond_false]
        exact f40_22_run hm k (p + 1) (by omega) h
theorem f40_22_is {N m : Nat} {x : Int64} {I : tI} {J : tJ} {q : Int32 × tI × tJ} (hm : m ≤ 6) (h : f40_22 N I J (Int32.ofNat m) x = some q) : q = (fdN (fun p => decide (J 22 p = x)) m 0, I, J) := by
  unfold f40_22 at h
  cases hc : f40_22_l3 N N I J (Int32.ofNat m) x 0 with
  | none => rw [hc] at h; cases h
  | some Y =>
    rw [hc] at h
    obtain ⟨a, b⟩ := f40_22_run hm N 0 (Nat.zero_le _) hc
    obtain ⟨k1, y1, y2, y4, Ia, Ja⟩ := Y
    dsimp only at h a b
    cases a
    rw [Nat.sub_zero] at b
    rw [← b]
    cases hk : Nat.beq k1 0 with
    | true =>
      rw [hk, cond_true] at h
      rw [if_pos (Nat.eq_of_beq_eq_true hk)]
      cases h
      rfl
    | false =>
      rw [hk, cond_false] at h
      rw [if_neg (fun q => by rw [q] at hk; cases hk)]
      cases h
      rfl
/-- a person that is told: the class keeps which, and passes him later -/
theorem old_c_22 (h : R0 t n b Ic Jc Ir) (hP : P ≤ 6) (hn : ∀ p, p < P → RN (Jc 22 p) (Jr 187 (5 + p))) (hc : f39_8_22 N Ic Jc (Int32.ofNat P) = some (v, I1, J1)) : (v = 0 ∧ RF t I1 (f225_185 Ir Jr 2).2.1 ∧ ∀ N q, f230_185_1002 N Ir Jr = some q → q = (0, Ir, Jr)) ∨ ((∀ N q, f230_185_1002 N Ir Jr = some q → q = (1, Ir, Jr)) ∧ ∃ ix, (∀ N q, f232_185 N Ir Jr 5 (Int32.ofNat P) = some q → q = (ix, Ir, Jr)) ∧ ((ix = -1 ∧ v = 0 ∧ (∀ x y : Int32, x ≠ 186 → True) ∧ ∀ to : Nat, 2480 ≤ to → RF t I1 (f225_185 (tup Ir 186 to ix) Jr 3).2.1) ∨ ∃ a, a < P ∧ ix = Int32.ofNat a ∧ v = 1 ∧ I1 = tup Ic 8 8 ix ∧ J1 = Jc)) := by
  unfold f39_8_22 at hc
  obtain ⟨⟨y1, Ia, Ja⟩, a1⟩ := exq (f38_8 Ic Jc)
  rw [a1] at hc
  dsimp only at hc
  rcases nm_c (Jr := Jr) h a1 with ⟨rfl, hF, g⟩ | ⟨rfl, rfl, rfl, ⟨wd, hwd, n5', n8'⟩, g⟩
  · rw [n00, cond_false] at hc
    cases hc
    exact Or.inl ⟨rfl, hF, g⟩
  · rw [n10, cond_true] at hc
    replace hc := obI hc
    obtain ⟨y2, Ib, Jb, a2, hc⟩ := hc
    have e := f40_22_is hP a2
    cases e
    have hx : RN (Ja 8 6) (e8 wd 0) := ⟨wd, hwd, n5', rfl⟩
    rw [fd_rel (o := 22) (b := 5) hn hx] at hc
    refine Or.inr ⟨g, fdN (fun p => decide (Jr 187 (5 + p) = e8 wd 0)) P 0, fun N q hq => f232_is (b := 5) (by omega) n8' hq, ?_⟩
    rcases fdN_or (P := fun p => decide (Jr 187 (5 + p) = e8 wd 0)) P 0 with ⟨k1, -⟩ | ⟨i, -, k2, k3, -⟩
    · rw [k1, show xcmp .ne (-1 : Int32) (-1) = false from rfl, cond_false, f33_is] at hc
      dsimp only at hc
      rw [q00, cond_true] at hc
      cases hc
      refine Or.inl ⟨k1, rfl, fun _ _ _ => trivial, fun to hto => ?_⟩
      rw [k1]
      have r1 : R0 t n b (tup Ia 8 8 (-1)) J1 (tup Ir 186 to (-1)) := R0_cg h (fun k _ => tup_ne (by omega)) (fun o k ho => tup_ne (by omega)) rfl (fun k _ _ => tup_ne (by omega)) (fun o k ho => tup_ne (by omega))
      rw [f225_is r1.2.1]
      exact RF_of r1 (by decide)
    · rw [k3, xc_ne (oi_m1 (by omega)), cond_true] at hc
      cases hc
      exact Or.inr ⟨i, by omega, k3, rfl, by rw [k3], rfl⟩
theorem old_rel_22 {to : Nat} (hto : 2480 ≤ to ∧ to < 3972) (h : R0 t n b Ic Jc Ir) (hP : P ≤ 6) (hn : ∀ p, p < P → RN (Jc 22 p) (Jr 187 (5 + p))) (hc : f39_8_22 N Ic Jc (Int32.ofNat P) = some (v, I1, J1)) (hr : f245_185 N' Ir Jr 5 (Int32.ofNat P) (Int32.ofNat to) = some (w, I2, J2)) : OUT t v w I1 I2 (∃ a, a < P ∧ I1 = tup Ic 8 8 (Int32.ofNat a) ∧ J1 = Jc ∧ f222_185 N' (tup Ir 186 to (Int32.ofNat a)) Jr = some ((), I2, J2)) := by
  unfold f245_185 at hr
  replace hr := obI hr
  obtain ⟨y1, Ia, Ja, b1, hr⟩ := hr
  rcases old_c_22 (Jr := Jr) h hP hn hc with ⟨rfl, hF, g⟩ | ⟨g, ix, gi, g2⟩
  · have e := g _ _ b1
    cases e
    rw [n00, cond_false] at hr
    rw [f225_is h.2.1] at hr hF
    dsimp only at hr
    cases hr
    exact Or.inl ⟨rfl, rfl, hF⟩
  · have e := g _ _ b1
    cases e
    rw [n10, cond_true] at hr
    replace hr := obI hr
    obtain ⟨y2, Ib, Jb, b2, hr⟩ := hr
    have e := gi _ _ b2
    cases e
    rw [oi_nat (by omega), tup_eq] at hr
    rcases g2 with ⟨rfl, rfl, -, hF⟩ | ⟨a, ha, rfl, rfl, rfl, rfl⟩
    · rw [show xcmp .ne (-1 : Int32) (-1) = false from rfl, cond_false] at hr
      have hF := hF to hto.1
      have r2 : (tup Ir 186 to (-1)) 185 18 = 0 := by rw [tup_ne (by omega)]; exact h.2.1
      rw [f225_is r2] at hr hF
      dsimp only at hr
      cases hr
      exact Or.inl ⟨rfl, rfl, hF⟩
    · rw [xc_ne (oi_m1 (by omega)), cond_true] at hr
      replace hr := obU hr
      obtain ⟨u, Id, Jd, b3, hr⟩ := hr
      cases hr
      exact Or.inr ⟨rfl, rfl, a, ha, rfl, rfl, b3⟩
end OLD
