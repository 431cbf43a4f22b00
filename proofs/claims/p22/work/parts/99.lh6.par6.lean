/-! PERSONS, in step -/
section PG
variable {t : Nat → Int32} {n N N' P S B W D : Nat} {Ic Ir I1 I2 : tI} {Jc Jr J1 J2 : tJ} {v w : Int32} {b : Int}
def frT (p : Nat) (I I' : tI) : Prop := ∀ o k, ¬ (o = 8 ∧ (k = 2 ∨ k = 3 ∨ k = 4 ∨ k = 5 ∨ k = 7)) → ¬ ((o = 41 ∨ o = 42) ∧ k = p) → I' o k = I o k
def frU (q : Nat) (I I' : tI) : Prop := ∀ o k, ¬ (o = 185 ∧ (k = 12 ∨ k = 13 ∨ k = 14 ∨ k = 15)) → ¬ (o = 186 ∧ (k = q + 1 ∨ k = q + 2)) → I' o k = I o k
theorem leaves_rel {p q : Nat} (hp : p < 5) (hq : 2480 ≤ q ∧ q < 3000) (h : R0 t n b Ic Jc Ir) (z : Ic 42 p = Ir 186 (q + 2)) (hc : f84_35_j76 N Ic Jc (Int32.ofNat p) = some (v, I1, J1)) (hr : f240_185_j79 N' Ir Jr (Int32.ofNat q) = some (w, I2, J2)) : (v = 0 ∧ w = 0 ∧ RF t I1 I2) ∨ (v = 1 ∧ ∃ Ig, f240_185_j102 N' Ig Jr (Int32.ofNat q) = some (w, I2, J2) ∧ R0 t n b I1 J1 Ig ∧ (∀ o k, ¬ (o = 8 ∧ (k = 2 ∨ k = 3 ∨ k = 4 ∨ k = 5 ∨ k = 7)) → ¬ (o = 42 ∧ k = p) → I1 o k = Ic o k) ∧ gJ Jc J1 ∧ (∀ o k, ¬ (o = 185 ∧ (k = 12 ∨ k = 13 ∨ k = 14 ∨ k = 15)) → ¬ (o = 186 ∧ k = q + 2) → Ig o k = Ir o k) ∧ I1 42 p = Ig 186 (q + 2)) := by
  unfold f84_35_j76 at hc
  unfold f240_185_j79 at hr
  replace hr := obI hr
  obtain ⟨y1, Ia, Ja, b1, hr⟩ := hr
  obtain ⟨ww, hRW, g⟩ := is_rel h b1
  have hw : ww = 15 ↔ Ic 8 5 = 8 := RW_iff hRW 15 (by decide)
  rcases g with ⟨e, rfl, b2⟩ | ⟨e, rfl, rfl, rfl⟩
  · rw [xc_nen (hw.mp e), cond_false] at hc
    rw [q10, cond_false] at hr
    replace hc := obU hc
    obtain ⟨u1, Ib, Jb, a1, hc⟩ := hc
    obtain ⟨r1, c1, j1, k1, rfl⟩ := R0_adv h a1 b2
    obtain ⟨⟨y2, Id, Jd⟩, a2⟩ := exq (f37_8 Ib Jb 1 999)
    rw [a2] at hc
    dsimp only at hc
    replace hr := obI hr
    obtain ⟨y3, Ie, Je, b3, hr⟩ := hr
    rw [show Int32.ofNat q + 2 = Int32.ofNat (q + 2) from oi_add] at b3
    rcases num_rel r1 a2 b3 with ⟨rfl, rfl, hF⟩ | ⟨rfl, rfl, rfl, rfl, -, l1, l2, b4⟩
    · rw [n00, cond_false] at hc
      rw [q00, cond_true] at hr
      cases hc
      cases hr
      exact Or.inl ⟨rfl, rfl, hF⟩
    rw [n10, cond_true] at hc
    rw [q10, cond_false] at hr
    rw [oi_nat (by omega)] at b4
    replace hc := obU hc
    obtain ⟨u2, If, Jf, a3, hc⟩ := hc
    rw [oi_nat (by omega)] at a3
    cases hc
    have r2 : R0 t n b (tup Id 42 p (Id 8 7)) Jd (tup Ia 186 (q + 2) (Id 8 7)) := R0_cg r1 (fun k _ => tup_ne (by omega)) (fun o k ho => tup_ne (by omega)) rfl (fun k _ _ => tup_ne (by omega)) (fun o k ho => tup_ne (by omega))
    obtain ⟨r3, c3, j3, k3, rfl⟩ := R0_adv r2 a3 b4
    refine Or.inr ⟨rfl, Ie, hr, r3, fun o k q1 q2 => ?_, fun o k q1 => ?_, fun o k q1 q2 => ?_, ?_⟩
    · rw [c3 o k q1, tup_ne q2, c1 o k q1]
    · rw [j3 o k q1, j1 o k q1]
    · rw [k3 o k q1, tup_ne q2, k1 o k q1]
    · rw [c3 _ _ (by omega), tup_eq, k3 _ _ (by omega), tup_eq]
  · rw [xc_ne (fun e' => e (hw.mpr e')), cond_true] at hc
    rw [q00, cond_true] at hr
    cases hc
    exact Or.inr ⟨rfl, Ia, hr, h, fun _ _ _ _ => rfl, fun _ _ _ => rfl, fun _ _ _ _ => rfl, z⟩
theorem times_rel {p q : Nat} (hp : p < 5) (hq : 2480 ≤ q ∧ q < 3000) (h : R0 t n b Ic Jc Ir) (z1 : Ir 186 (q + 1) = 0) (z2 : Ir 186 (q + 2) = -1) (hc : f84_35 N Ic Jc (Int32.ofNat p) = some (v, I1, J1)) (hr : (match f235_185 N' Ir Jr 14 with | none => none | some (v7, I7, J7) => bif xcmp .eq v7 0 then f240_185_j79 N' I7 J7 (Int32.ofNat q) else (match f229_185 N' I7 J7 (Int32.ofNat q + 1) 0 99 with | none => none | some (v9, I9, J9) => bif xcmp .eq v9 0 then some (0, I9, J9) else f240_185_j79 N' I9 J9 (Int32.ofNat q))) = some (w, I2, J2)) : (v = 0 ∧ w = 0 ∧ RF t I1 I2) ∨ (v = 1 ∧ ∃ Ig, f240_185_j102 N' Ig Jr (Int32.ofNat q) = some (w, I2, J2) ∧ R0 t n b I1 J1 Ig ∧ frT p Ic I1 ∧ gJ Jc J1 ∧ frU q Ir Ig ∧ I1 41 p = Ig 186 (q + 1) ∧ I1 42 p = Ig 186 (q + 2)) := by
  unfold f84_35 at hc
  rw [oi_nat (by omega)] at hc
  replace hr := obI hr
  obtain ⟨y1, Ia, Ja, b1, hr⟩ := hr
  have hz : R0 t n b (tup (tup Ic 41 p 0) 42 p (-1)) Jc Ir := R0_cg h (fun k _ => by rw [tup_ne (by omega), tup_ne (by omega)]) (fun o k ho => by rw [tup_ne (by omega), tup_ne (by omega)]) rfl (fun _ _ _ => rfl) (fun _ _ _ => rfl)
  obtain ⟨ww, hRW, g⟩ := is_rel h b1
  have hw : ww = 14 ↔ Ic 8 5 = 7 := RW_iff hRW 14 (by decide)
  rcases g with ⟨e, rfl, b2⟩ | ⟨e, rfl, rfl, rfl⟩
  · rw [xc_nen (hw.mp e), cond_false] at hc
    rw [q10, cond_false] at hr
    replace hc := obU hc
    obtain ⟨u1, Ib, Jb, a1, hc⟩ := hc
    obtain ⟨r1, c1, j1, k1, rfl⟩ := R0_adv hz a1 b2
    obtain ⟨⟨y2, Id, Jd⟩, a2⟩ := exq (f37_8 Ib Jb 0 99)
    rw [a2] at hc
    dsimp only at hc
    replace hr := obI hr
    obtain ⟨y3, Ie, Je, b3, hr⟩ := hr
    rw [show Int32.ofNat q + 1 = Int32.ofNat (q + 1) from oi_add] at b3
    rcases num_rel r1 a2 b3 with ⟨rfl, rfl, hF⟩ | ⟨rfl, rfl, rfl, rfl, -, l1, l2, b4⟩
    · rw [n00, cond_false] at hc
      rw [q00, cond_true] at hr
      cases hc
      cases hr
      exact Or.inl ⟨rfl, rfl, hF⟩
    rw [n10, cond_true] at hc
    rw [q10, cond_false] at hr
    rw [oi_nat (by omega)] at b4
    replace hc := obU hc
    obtain ⟨u2, If, Jf, a3, hc⟩ := hc
    have r2 : R0 t n b (tup Id 41 p (Id 8 7)) Jd (tup Ia 186 (q + 1) (Id 8 7)) := R0_cg r1 (fun k _ => tup_ne (by omega)) (fun o k ho => tup_ne (by omega)) rfl (fun k _ _ => tup_ne (by omega)) (fun o k ho => tup_ne (by omega))
    obtain ⟨r3, c3, j3, k3, rfl⟩ := R0_adv r2 a3 b4
    have z : If 42 p = Ie 186 (q + 2) := by
      rw [c3 _ _ (by omega), tup_ne (by omega), c1 _ _ (by omega), tup_eq, k3 _ _ (by omega), tup_ne (by omega), k1 _ _ (by omega), z2]
    rcases leaves_rel hp hq r3 z hc hr with g | ⟨rfl, Ig, g1, g2, g3, g4, g5, g6⟩
    · exact Or.inl g
    refine Or.inr ⟨rfl, Ig, g1, g2, fun o k q1 q2 => ?_, fun o k q1 => ?_, fun o k q1 q2 => ?_, ?_, g6⟩
    · rw [g3 o k q1 (by omega), c3 o k q1, tup_ne (by omega), c1 o k q1, tup_ne (by omega), tup_ne (by omega)]
    · rw [g4 o k q1, j3 o k q1, j1 o k q1]
    · rw [g5 o k q1 (by omega), k3 o k q1, tup_ne (by omega), k1 o k q1]
    · rw [g3 _ _ (by omega) (by omega), c3 _ _ (by omega), tup_eq, g5 _ _ (by omega) (by omega), k3 _ _ (by omega), tup_eq]
  · rw [xc_ne (fun e' => e (hw.mpr e')), cond_true] at hc
    rw [q00, cond_true] at hr
    have z : (tup (tup Ic 41 p 0) 42 p (-1)) 42 p = Ia 186 (q + 2) := by rw [tup_eq, z2]
    rcases leaves_rel hp hq hz z hc hr with g | ⟨rfl, Ig, g1, g2, g3, g4, g5, g6⟩
    · exact Or.inl g
    refine Or.inr ⟨rfl, Ig, g1, g2, fun o k q1 q2 => ?_, g4, fun o k q1 q2 => ?_, ?_, g6⟩
    · rw [g3 o k q1 (by omega), tup_ne (by omega), tup_ne (by omega)]
    · rw [g5 o k q1 (by omega)]
    · rw [g3 _ _ (by omega) (by omega), tup_ne (by omega), tup_eq, g5 _ _ (by omega) (by omega), z1]
theorem f224_fun {N : Nat} {I I1 I2 : tI} {J J1 J2 : tJ} {a b : Int32} (h : f224_185_1002 N I J = some (a, I1, J1)) (h' : f224_185_1002 N I J = some (b, I2, J2)) : a = b := by
  rw [h] at h'
  cases h'
  rfl
/-! STEPS -/
abbrev isStp (I : tI) : Prop := 16 ≤ (I 8 5).toInt ∧ (I 8 5).toInt ≤ 20
theorem f85_is {I : tI} {J : tJ} : f85_35 I J = (if 16 ≤ (I 8 5).toInt ∧ (I 8 5).toInt ≤ 20 then 1 else 0, I, J) := by
  unfold f85_35
  rw [f127_is]
  rfl
theorem RW_stp {a c : Int32} (h : RW a c) : ((0 ≤ a.toInt ∧ a.toInt ≤ 4) ↔ (16 ≤ c.toInt ∧ c.toInt ≤ 20)) ∧ ((16 ≤ c.toInt ∧ c.toInt ≤ 20) → c - 16 = a) := by
  rcases h with ⟨rfl, rfl⟩ | ⟨j, hj, rfl, rfl⟩
  · decide
  · have : (List.range 31).all (fun j => decide (((0 ≤ (Int32.ofNat j).toInt ∧ (Int32.ofNat j).toInt ≤ 4) ↔ (16 ≤ (Int32.ofNat (wpi.getD j 0)).toInt ∧ (Int32.ofNat (wpi.getD j 0)).toInt ≤ 20)) ∧ ((16 ≤ (Int32.ofNat (wpi.getD j 0)).toInt ∧ (Int32.ofNat (wpi.getD j 0)).toInt ≤ 20) → Int32.ofNat (wpi.getD j 0) - 16 = Int32.ofNat j))) = true := by decide +kernel
    exact of_decide_eq_true (List.all_eq_true.mp this j (List.mem_range.mpr hj))
def frS (p : Nat) (I I' : tI) : Prop := ∀ o k, ¬ (o = 8 ∧ (k = 2 ∨ k = 3 ∨ k = 4 ∨ k = 5 ∨ k = 7)) → ¬ (o = 44 ∧ 8 * p ≤ k ∧ k < 8 * p + 8) → I' o k = I o k
def frV (q : Nat) (I I' : tI) : Prop := ∀ o k, ¬ (o = 185 ∧ (k = 12 ∨ k = 13 ∨ k = 14 ∨ k = 15)) → ¬ (o = 186 ∧ (k = q + 3 ∨ (q + 6 ≤ k ∧ k < q + 14))) → I' o k = I o k
theorem steps_run {p q : Nat} (hp : p < 5) (hq : 2480 ≤ q ∧ q < 3000) : ∀ (k m k' : Nat) {Ic Ir : tI} {Jc Jr : tJ} {Y : Int32 × Int32 × tI × tJ} {Y' : Nat × Int32 × tI × tJ}, R0 t n b Ic Jc Ir → m ≤ 8 → Ir 186 (q + 3) = Int32.ofNat m → (∀ i, i < m → Ic 44 (8 * p + i) = Ir 186 (q + 6 + i)) → f86_35_l2 N k Ic Jc (Int32.ofNat p) (Int32.ofNat m) = some Y → f240_185_l140 N' k' Ir Jr (Int32.ofNat q) = some Y' → ∃ m' I1 J1 I2, (m ≤ m' ∧ m' ≤ 8) ∧ Y = (Int32.ofNat p, Int32.ofNat m', I1, J1) ∧ Y'.2 = (Int32.ofNat q, I2, Jr) ∧ R0 t n b I1 J1 I2 ∧ I2 186 (q + 3) = Int32.ofNat m' ∧ (∀ i, i < m' → I1 44 (8 * p + i) = I2 186 (q + 6 + i)) ∧ frS p Ic I1 ∧ gJ Jc J1 ∧ frV q Ir I2 ∧ ((isStp I1 ∧ m' = 8 ∧ Y'.1 = 1) ∨ (¬ isStp I1 ∧ Y'.1 = 0)) ∧ (isStp Ic → m < 8 → m < m')
  | 0, _, _, _, _, _, _, _, _, _, _, _, _, hc, _ => by cases hc
  | _ + 1, _, 0, _, _, _, _, _, _, _, _, _, _, _, hr => by cases hr
  | k + 1, m, k' + 1, Ic, Ir, Jc, Jr, Y, Y', h, hm, z, hst, hc, hr => by
    simp only [f86_35_l2] at hc
    simp only [f240_185_l140] at hr
    rw [show xcmp .ge (Int32.ofNat m) 8 = decide (8 ≤ m) from oi_ge (q := 8) (by omega) (by omega), f85_is] at hc
    dsimp only at hc
    replace hr := obI hr
    obtain ⟨w1, Ia, Ja, b1, hr⟩ := hr
    obtain ⟨ww, eq, hRW⟩ := RT_word h.1 b1
    cases eq
    obtain ⟨s1, s2⟩ := RW_stp hRW
    rw [tc_lt, show (0 : Int32).toInt = 0 from rfl] at hr
    have stop : (¬ isStp Ic ∨ m = 8) → ∃ I', Y' = (if isStp Ic ∧ m = 8 then 1 else 0, Int32.ofNat q, I', Jr) ∧ I' = Ir := fun hs => by
      by_cases l0 : w1.toInt < 0
      · rw [decide_eq_true l0, cond_true] at hr
        cases hr
        exact ⟨_, by rw [if_neg (fun g => by have := s1.mpr g.1; omega)], rfl⟩
      · rw [decide_eq_false l0, cond_false] at hr
        replace hr := obI hr
        obtain ⟨w2, Ib, Jb, b2, hr⟩ := hr
        obtain ⟨ww2, eq, hRW2⟩ := RT_word h.1 b2
        have e12 : w2 = w1 := by
          have a1 := f224_fun b1 b2
          exact a1.symm
        cases eq
        subst e12
        rw [tc_gt, show (4 : Int32).toInt = 4 from rfl] at hr
        by_cases l4 : 4 < w2.toInt
        · rw [decide_eq_true l4, cond_true] at hr
          cases hr
          exact ⟨_, by rw [if_neg (fun g => by have := s1.mpr g.1; omega)], rfl⟩
        · rw [decide_eq_false l4, cond_false, show (Int32.ofNat q + 3).toNatClampNeg = q + 3 from ox (b := 3) (by omega), z] at hr
          have st : isStp Ic := s1.mp (by omega)
          rcases hs with hs | hs
          · exact absurd st hs
          · rw [xc_nen (by rw [hs]; rfl), cond_false] at hr
            cases hr
            exact ⟨_, by rw [if_pos ⟨st, hs⟩], rfl⟩
    by_cases h8 : 8 ≤ m
    · rw [decide_eq_true h8, cond_true] at hc
      cases hc
      have e8 : m = 8 := by omega
      obtain ⟨I', e1, rfl⟩ := stop (Or.inr e8)
      subst e1
      refine ⟨m, Ic, Jc, I', ⟨Nat.le_refl _, hm⟩, rfl, rfl, h, z, hst, fun _ _ _ _ => rfl, fun _ _ _ => rfl, fun _ _ _ _ => rfl, ?_, fun _ g => by omega⟩
      by_cases st : isStp Ic
      · exact Or.inl ⟨st, e8, if_pos ⟨st, e8⟩⟩
      · exact Or.inr ⟨st, if_neg (fun g => st g.1)⟩
    · rw [decide_eq_false h8, cond_false] at hc
      by_cases st : isStp Ic
      · rw [if_pos st, q10, cond_false] at hc
        replace hc := obU hc
        obtain ⟨u1, Ib, Jb, a1, hc⟩ := hc
        have hw4 := s1.mpr st
        rw [decide_eq_false (by omega), cond_false] at hr
        replace hr := obI hr
        obtain ⟨w2, Id, Jd, b2, hr⟩ := hr
        have e12 := f224_fun b1 b2
        obtain ⟨ww2, eq, -⟩ := RT_word h.1 b2
        cases eq
        subst e12
        rw [tc_gt, show (4 : Int32).toInt = 4 from rfl, decide_eq_false (by omega), cond_false, show (Int32.ofNat q + 3).toNatClampNeg = q + 3 from ox (b := 3) (by omega), z, xc_ne (fun g => by
          have := oi_inj (b := 8) (by omega) (by omega) g
          omega), cond_true] at hr
        replace hr := obI hr
        obtain ⟨w3, Ie, Je, b3, hr⟩ := hr
        have e13 := f224_fun b1 b3
        obtain ⟨ww3, eq, -⟩ := RT_word h.1 b3
        cases eq
        subst e13
        replace hr := obU hr
        obtain ⟨u2, If, Jf, b4, hr⟩ := hr
        have i1 : ((Int32.ofNat q + 6) + Int32.ofNat m).toNatClampNeg = q + 6 + m := by
          rw [show Int32.ofNat q + 6 = Int32.ofNat (q + 6) from oi_add]
          exact ox (by omega)
        have i2 : (Int32.ofNat p * 8 + Int32.ofNat m).toNatClampNeg = 8 * p + m := by
          rw [show Int32.ofNat p * 8 = Int32.ofNat (p * 8) from oi_mul, Nat.mul_comm]
          exact ox (by omega)
        rw [i1, tup_ne (by omega), z, oi_suc (by omega)] at b4
        rw [i2, s2 st] at a1
        have r1 : R0 t n b (tup Ic 44 (8 * p + m) w1) Jc (tup (tup Ir 186 (q + 6 + m) w1) 186 (q + 3) (Int32.ofNat (m + 1))) := R0_cg h (fun k _ => tup_ne (by omega)) (fun o k ho => tup_ne (by omega)) rfl (fun k _ _ => by rw [tup_ne (by omega), tup_ne (by omega)]) (fun o k ho => by rw [tup_ne (by omega), tup_ne (by omega)])
        obtain ⟨r2, c2, j2, k2, rfl⟩ := R0_adv r1 a1 b4
        rw [oi_suc (by omega)] at hc
        obtain ⟨m', I1, J1, I2, m1, m2, m3, m4, m5, m6, m7, m8, m9, m10, -⟩ := steps_run hp hq k (m + 1) k' r2 (by omega) (by rw [k2 _ _ (by omega), tup_eq]) (fun i hi => by
          rw [c2 _ _ (by omega), k2 _ _ (by omega), tup_ne (by omega : ¬ (186 = 186 ∧ q + 6 + i = q + 3))]
          by_cases e : i = m
          · rw [e, tup_eq, tup_eq]
          · rw [tup_ne (by omega), tup_ne (by omega)]
            exact hst i (by omega)) hc hr
        refine ⟨m', I1, J1, I2, ⟨by omega, m1.2⟩, m2, m3, m4, m5, m6, fun o k' q1 q2 => ?_, fun o k' q1 => ?_, fun o k' q1 q2 => ?_, m10, fun _ _ => by omega⟩
        · rw [m7 o k' q1 q2, c2 o k' q1, tup_ne (by omega)]
        · rw [m8 o k' q1, j2 o k' q1]
        · rw [m9 o k' q1 q2, k2 o k' q1, tup_ne (by omega), tup_ne (by omega)]
      · have st' : ¬ (16 ≤ (Ic 8 5).toInt ∧ (Ic 8 5).toInt ≤ 20) := st
        rw [if_neg st', q00, cond_true] at hc
        cases hc
        obtain ⟨I', e1, rfl⟩ := stop (Or.inl st)
        subst e1
        exact ⟨m, Ic, Jc, I', ⟨Nat.le_refl _, hm⟩, rfl, rfl, h, z, hst, fun _ _ _ _ => rfl, fun _ _ _ => rfl, fun _ _ _ _ => rfl, Or.inr ⟨st, if_neg (fun g => st g.1)⟩, fun g _ => absurd g st⟩
theorem RDs_up (h : RDs S P Ic Ir) : RDs S (P + 1) Ic Ir := fun i hi => by
  obtain ⟨a, b⟩ := h i hi
  refine ⟨a, ?_⟩
  rcases b with b | ⟨b1, b2, ⟨x, b3, b4⟩, b5⟩ | ⟨b1, b2, b3, ⟨x, b4, b5⟩, y, b6, b7⟩
  · exact Or.inl b
  · exact Or.inr (Or.inl ⟨b1, b2, ⟨x, by omega, b4⟩, b5⟩)
  · exact Or.inr (Or.inr ⟨b1, b2, b3, ⟨x, by omega, b5⟩, y, by omega, b7⟩)
theorem person_rel (h : R0 t n b Ic Jc Ir) (hW : 0 < W) (hD : RD P S B W D Ic Jc Ir Jr) (hc : f83_35 N Ic Jc = some (v, I1, J1)) (hr : f243_185_j71 N' Ir Jr 8 = some (w, I2, J2)) : PO t n b v w I1 J1 I2 J2 := by
  obtain ⟨⟨g1, g2⟩, ⟨g3, g4, g5⟩, ⟨g6, g7⟩, ⟨g8, g9⟩, g10⟩ := id hD
  have gc := g1.1
  unfold f83_35 at hc
  rw [f76_is g3.1.1 g3.2.1.1, if_pos hW] at hc
  dsimp only at hc
  rw [n10, cond_true, g1.2.1.1, show xcmp .lt (Int32.ofNat P) 5 = decide (P < 5) from oi_lt (q := 5) (by omega) (by omega)] at hc
  unfold f243_185_j71 at hr
  rw [show xcmp .eq (8 : Int32) 5 = false from rfl, cond_false, show xcmp .eq (8 : Int32) 6 = false from rfl, cond_false, show xcmp .eq (8 : Int32) 7 = false from rfl, cond_false, show xcmp .eq (8 : Int32) 8 = true from rfl, cond_true] at hr
  replace hr := obI hr
  obtain ⟨y0, Iz, Jz, b0, hr⟩ := hr
  generalize hI : tup Ir 185 20 (Ir 185 20 ||| ((1 : Int32) <<< ((8 : Int32) &&& 31))) = Is at b0
  have hs : R0 t n b Ic Jc Is := by
    rw [← hI]
    exact R0_cg h (fun _ _ => rfl) (fun _ _ _ => rfl) rfl (fun k _ _ => tup_ne (by omega)) (fun o k ho => tup_ne (by omega))
  have hD1 : RD P S B W D Ic Jc Is Jr := by
    rw [← hI]
    refine ⟨⟨g1, g2⟩, ⟨g3, ⟨?_, ?_⟩, g5⟩, ⟨g6, g7⟩, ⟨g8, g9⟩, g10⟩
    · rw [tup_eq, show (8 : Int32) = Int32.ofNat 8 from rfl, tb_or (by omega), decide_eq_false (by omega), Bool.or_false]; exact g4.1
    · rw [tup_eq, show (8 : Int32) = Int32.ofNat 8 from rfl, tb_or (by omega), decide_eq_false (by omega), Bool.or_false]; exact g4.2
  clear g1 g2 g3 g4 g5 g6 g7 g8 g9 g10
  obtain ⟨⟨g1, g2⟩, ⟨g3, g4, g5⟩, ⟨g6, g7⟩, ⟨g8, g9⟩, g10⟩ := id hD1
  have e2 : Is 186 2482 = Int32.ofNat P := g1.2.2.1
  have eq0 : (2520 : Int32) + 14 * Int32.ofNat P = Int32.ofNat (2520 + 14 * P) := by
    rw [show (14 : Int32) * Int32.ofNat P = Int32.ofNat (14 * P) from oi_mul]
    exact oi_add
  generalize hq : 2520 + 14 * P = q at eq0
  unfold f240_185 at b0
  rw [e2, eq0] at b0
  replace b0 := obI b0
  obtain ⟨y1, Ib, Jb, b1, b0⟩ := b0
  by_cases h5 : P < 5
  · rw [decide_eq_true h5, cond_true] at hc
    replace hc := obU hc
    obtain ⟨u1, Ia, Ja, a1, hc⟩ := hc
    replace hc := obI hc
    obtain ⟨y2, Id, Jd, a2, hc⟩ := hc
    rcases new_rel (a0 := 2) (a1 := 5) (a2 := 0) (m := P) (ka := 2482) (kn := 60 + P) (by decide) (by omega) e2 (fun q => by
        have := oi_inj (b := 5) (by omega) (by omega) q
        omega) (by rw [show (60 : Int32) + 0 = Int32.ofNat 60 by decide]; exact ox (by omega)) hs hD1 a1 a2 b1 with ⟨rfl, rfl, hF⟩ | ⟨rfl, rfl, rfl, rfl, c1, j1, Ig, x, r1, k1, hx, b2⟩
    · rw [n00, cond_false] at hc
      rw [q00, cond_true] at b0
      cases hc
      cases b0
      rw [j278_0] at hr
      cases hr
      exact Or.inl ⟨rfl, rfl, hF⟩
    rw [n10, cond_true] at hc
    rw [q10, cond_false] at b0
    have eP : Id 38 0 = Int32.ofNat P := by rw [c1 _ _ (by omega)]; exact g1.2.1.1
    replace hc := obU hc
    obtain ⟨u3, Ie, Je, a3, hc⟩ := hc
    rw [eP, oi_nat (by omega)] at a3 hc
    have r2 : R0 t n b Id (tup Jd 39 P (Jd 8 6)) Ig := R0_cg r1 (fun _ _ => rfl) (fun _ _ _ => rfl) (tup_ne (by omega)) (fun _ _ _ => rfl) (fun _ _ _ => rfl)
    obtain ⟨r3, c3, j3, k3, rfl⟩ := R0_adv r2 a3 b2
    replace hc := obI hc
    obtain ⟨y3, If, Jf, a4, hc⟩ := hc
    replace b0 := obI b0
    obtain ⟨y4, Ih, Jh, b4, b0⟩ := b0
    rcases pw_rel (c := 6) (r := 13) r3 (fun w q => RW_iff q 13 (by decide)) a4 b4 with ⟨rfl, rfl, hF⟩ | ⟨rfl, rfl, r4, c4, j4, k4, rfl⟩
    · rw [q00, cond_true] at hc b0
      cases hc
      cases b0
      rw [j278_0] at hr
      cases hr
      exact Or.inl ⟨rfl, rfl, hF⟩
    rw [q10, cond_false] at hc b0
    have hD2 : RD P S B W D If Jf Ih (tup Jr 187 (60 + P) x) := by
      have hC : ∀ o k, 35 ≤ o → o ≤ 59 → True → If o k = Ic o k := fun o k q1 q2 _ => by rw [c4 o k (by omega), c3 o k (by omega), c1 o k (by omega)]
      have hJ : ∀ o k, 35 ≤ o → o ≤ 59 → ¬ (o = 39 ∧ k = P) → Jf o k = Jc o k := fun o k q1 q2 q3 => by rw [j4 o k (by omega), j3 o k (by omega), tup_ne q3, j1 o k (by omega)]
      have hR : ∀ k, 2480 ≤ k → k < 3092 → True → Ih 186 k = Is 186 k := fun k q1 q2 _ => by rw [k4 _ k (by omega), k3 _ k (by omega), k1 _ k (by omega)]
      have hT : Ih 185 20 = Is 185 20 := by rw [k4 _ _ (by omega), k3 _ _ (by omega), k1 _ _ (by omega)]
      have hN : ∀ k, ¬ (k = 60 + P) → (tup Jr 187 (60 + P) x) 187 k = Jr 187 k := fun k q => tup_ne (by omega)
      exact ⟨⟨RDc_cg g1 (hC _ _ (by omega) (by omega) trivial) (hC _ _ (by omega) (by omega) trivial) (hC _ _ (by omega) (by omega) trivial) (fun k a b => hR k (by omega) (by omega) trivial),
      RDn_cg g2 (fun p hp => hJ _ _ (by omega) (by omega) (by omega)) (fun p hp => hJ _ _ (by omega) (by omega) (by omega)) (fun p hp => hJ _ _ (by omega) (by omega) (by omega)) (fun p hp => hN _ (by omega)) (fun p hp => hN _ (by omega)) (fun p hp => hN _ (by omega))⟩,
      ⟨RDg_cg g3 (hC _ _ (by omega) (by omega) trivial) (hC _ _ (by omega) (by omega) trivial) (hC _ _ (by omega) (by omega) trivial) (hC _ _ (by omega) (by omega) trivial) (hR _ (by omega) (by omega) trivial) (hR _ (by omega) (by omega) trivial) (hR _ (by omega) (by omega) trivial) (hR _ (by omega) (by omega) trivial),
      RDt_cg g4 (hC _ _ (by omega) (by omega) trivial) hT,
      RDw_cg g5 (hJ _ _ (by omega) (by omega) (by omega)) (fun k a b => hR k (by omega) (by omega) trivial)⟩,
      ⟨RDp_cg g6 (fun o p a b hp => hC _ _ (by omega) (by omega) trivial) (fun k hk => hC _ _ (by omega) (by omega) trivial) (fun k a b => hR k (by omega) (by omega) trivial),
      RDq_cg g7 (fun k a b => hR k (by omega) (by omega) trivial)⟩,
      ⟨RDs_cg g8 (fun o p a b hp => hC _ _ (by omega) (by omega) trivial) (fun k a b => hR k (by omega) (by omega) trivial),
      RDb_cg g9 (fun p hp => hC _ _ (by omega) (by omega) trivial) (fun k a b => hR k (by omega) (by omega) trivial)⟩,
      RDz_cg g10 (fun k => hC _ _ (by omega) (by omega) trivial) (hC _ _ (by omega) (by omega) trivial) (fun k => hC _ _ (by omega) (by omega) trivial) (fun k a b => hR k (by omega) (by omega) trivial) (hR _ (by omega) (by omega) trivial) (hR _ (by omega) (by omega) trivial)⟩
    replace hc := obI hc
    obtain ⟨y5, Ii, Ji, a5, hc⟩ := hc
    replace b0 := obI b0
    obtain ⟨y6, Ij, Jj, b5, b0⟩ := b0
    rcases fresh_rel (to := q) (by omega) r4 hD2 a5 b5 with ⟨rfl, rfl, hF⟩ | ⟨rfl, rfl, r, c, ⟨hr5, hc6⟩, e3, e4, r5, c5, j5, k5, rfl⟩
    · rw [n00, cond_false] at hc b0
      cases hc
      cases b0
      rw [j278_0] at hr
      cases hr
      exact Or.inl ⟨rfl, rfl, hF⟩
    rw [n10, cond_true] at hc b0
    rw [e3] at hc
    rw [show (Int32.ofNat q + 2).toNatClampNeg = q + 2 from ox (b := 2) (by omega)] at b0
    replace hc := obI hc
    obtain ⟨y7, Ik, Jk, a6, hc⟩ := hc
    have r6 : R0 t n b (tup Ii 40 P (Int32.ofNat (10 * r + c))) Ji (tup Ij 186 (q + 2) (-1)) := R0_cg r5 (fun k _ => tup_ne (by omega)) (fun o k ho => tup_ne (by omega)) rfl (fun k _ _ => tup_ne (by omega)) (fun o k ho => tup_ne (by omega))
    have hq7 := g7 P (Nat.le_refl _) h5
    have zq : ∀ k, 2480 ≤ k → k < 3092 → k ≠ q → Ij 186 k = Is 186 k := fun k q1 q2 q3 => by rw [k5 _ k (by omega) (by omega), k4 _ k (by omega), k3 _ k (by omega), k1 _ k (by omega)]
    have hqz : ∀ k, k < 14 → q + k < 3092 := fun k hk => by omega
    have z1 : (tup Ij 186 (q + 2) (-1)) 186 (q + 1) = 0 := by
      rw [tup_ne (by omega), zq _ (by omega) (by omega) (by omega), ← hq, show 2520 + 14 * P + 1 = 2521 + 14 * P by omega]
      exact hq7.1
    rcases times_rel (p := P) (q := q) h5 (by omega) r6 z1 tup_eq a6 b0 with ⟨rfl, rfl, hF⟩ | ⟨rfl, Il, b6, r7, c7, j7, k7, t1, t2⟩
    · rw [q00, cond_true] at hc
      cases hc
      rw [j278_0] at hr
      cases hr
      exact Or.inl ⟨rfl, rfl, hF⟩
    rw [q10, cond_false] at hc
    replace hc := obI hc
    obtain ⟨y8, Im, Jm, a7, hc⟩ := hc
    unfold f240_185_j102 at b6
    replace b6 := obI b6
    obtain ⟨y9, Io, Jo, b7, b6⟩ := b6
    rcases pw_rel (c := 9) (r := 16) r7 (fun w q => RW_iff q 16 (by decide)) a7 b7 with ⟨rfl, rfl, hF⟩ | ⟨rfl, rfl, r8, c8, j8, k8, rfl⟩
    · rw [q00, cond_true] at hc
      rw [n00, cond_false] at b6
      cases hc
      cases b6
      rw [j278_0] at hr
      cases hr
      exact Or.inl ⟨rfl, rfl, hF⟩
    rw [q10, cond_false] at hc
    rw [n10, cond_true] at b6
    replace hc := obI hc
    obtain ⟨y10, Ip, Jp, a8, hc⟩ := hc
    unfold f86_35 at a8
    cases hlc : f86_35_l2 N N Im Jm (Int32.ofNat P) 0 with
    | none => rw [hlc] at a8; cases a8
    | some Y =>
    rw [hlc] at a8
    replace b6 := obI b6
    obtain ⟨w1, Iq, Jq, b8, b6⟩ := b6
    obtain ⟨ww, eq, hRW⟩ := RT_word r8.1 b8
    cases eq
    obtain ⟨s1, s2⟩ := RW_stp hRW
    have z3 : Io 186 (q + 3) = Int32.ofNat 0 := by
      rw [k8 _ _ (by omega), k7 _ _ (by omega) (by omega), tup_ne (by omega), zq _ (by omega) (by omega) (by omega), ← hq, show 2520 + 14 * P + 3 = 2523 + 14 * P by omega]
      exact hq7.2
    rw [tc_gt, show (4 : Int32).toInt = 4 from rfl] at b6
    by_cases st : isStp Im
    · have hw4 := s1.mpr st
      rw [decide_eq_false (by omega), cond_false] at b6
      replace b6 := obI b6
      obtain ⟨w2, Iu, Ju, b9, b6⟩ := b6
      have e12 := f224_fun b8 b9
      obtain ⟨ww2, eq, -⟩ := RT_word r8.1 b9
      cases eq
      subst e12
      rw [tc_ge, show (0 : Int32).toInt = 0 from rfl, decide_eq_true hw4.1, cond_true] at b6
      cases hlr : f240_185_l140 N' N' Io (tup Jr 187 (60 + P) x) (Int32.ofNat q) with
      | none => rw [hlr] at b6; cases b6
      | some Y' =>
      rw [hlr] at b6
      obtain ⟨m', I3, J3, I4, m1, m2, m3, m4, m5, m6, m7, m8, m9, m10, m11⟩ := steps_run h5 (by omega : 2480 ≤ q ∧ q < 3000) N 0 N' r8 (by omega) z3 (fun i hi => by omega) hlc hlr
      obtain ⟨kk, Y2⟩ := Y'
      dsimp only at m3 m10
      subst m2 m3
      dsimp only at a8 b6
      unfold f86_35_j55 at a8
      rw [oi_nat (by omega), f85_is] at a8
      dsimp only at a8
      have m0 := m11 st (by omega)
      have est : (tup I3 43 P (Int32.ofNat m')) 8 5 = I3 8 5 := tup_ne (by omega)
      rw [est] at a8
      have r9 : R0 t n b (tup I3 43 P (Int32.ofNat m')) J3 I4 := R0_cg m4 (fun k _ => tup_ne (by omega)) (fun o k ho => tup_ne (by omega)) rfl (fun _ _ _ => rfl) (fun _ _ _ => rfl)
      rcases m10 with ⟨sp, -, rfl⟩ | ⟨sp, rfl⟩
      · have sp' : 16 ≤ (I3 8 5).toInt ∧ (I3 8 5).toInt ≤ 20 := sp
        rw [if_pos sp', q10, cond_false, f33_is] at a8
        rw [show Nat.beq 1 0 = false from rfl, cond_false, f225_is r9.2.1] at b6
        dsimp only at a8 b6
        cases a8
        cases b6
        rw [n00, cond_false] at hc
        cases hc
        rw [j278_0] at hr
        cases hr
        exact Or.inl ⟨rfl, rfl, RF_of r9 (by decide)⟩
      · have sp' : ¬ (16 ≤ (I3 8 5).toInt ∧ (I3 8 5).toInt ≤ 20) := sp
        rw [if_neg sp', q00, cond_true, tc_gt, oi_int (by omega), show (0 : Int32).toInt = 0 from rfl, decide_eq_true (by omega), cond_true] at a8
        cases a8
        rw [n10, cond_true] at hc
        rw [show Nat.beq 0 0 = true from rfl, cond_true] at b6
        unfold f240_185_j222 at b6
        rw [oi_nat (by omega), show (Int32.ofNat q + 5).toNatClampNeg = q + 5 from ox (b := 5) (by omega), show (Int32.ofNat q + 1).toNatClampNeg = q + 1 from ox (b := 1) (by omega), show (Int32.ofNat q + 4).toNatClampNeg = q + 4 from ox (b := 4) (by omega)] at b6
        replace hc := obI hc
        obtain ⟨y11, Iv, Jv, a9, hc⟩ := hc
        cases hc
        have cC : ∀ o k, 35 ≤ o → o ≤ 59 → ¬ ((o = 35 ∧ k = 3) ∨ ((o = 40 ∨ o = 41 ∨ o = 42) ∧ k = P) ∨ (o = 44 ∧ 8 * P ≤ k ∧ k < 8 * P + 8)) → I3 o k = Ic o k := fun o k q1 q2 q3 => by
          rw [m7 o k (by omega) (by omega), c8 o k (by omega), c7 o k (by omega) (by omega), tup_ne (by omega), c5 o k (by omega) (by omega), c4 o k (by omega), c3 o k (by omega), c1 o k (by omega)]
        have cJ : ∀ o k, 35 ≤ o → o ≤ 59 → ¬ (o = 39 ∧ k = P) → Jp o k = Jc o k := fun o k q1 q2 q3 => by
          rw [m8 o k (by omega), j8 o k (by omega), j7 o k (by omega), j5 o k (by omega), j4 o k (by omega), j3 o k (by omega), tup_ne q3, j1 o k (by omega)]
        have cR : ∀ k, 2480 ≤ k → k < 3092 → ¬ (q ≤ k ∧ k < q + 14) → I4 186 k = Is 186 k := fun k q1 q2 q3 => by
          rw [m9 _ k (by omega) (by omega), k8 _ k (by omega), k7 _ k (by omega) (by omega), tup_ne (by omega), zq _ q1 q2 (by omega)]
        have vC0 : I3 40 P = Int32.ofNat (10 * r + c) := by
          rw [m7 _ _ (by omega) (by omega), c8 _ _ (by omega), c7 _ _ (by omega) (by omega), tup_eq]
        have vR0 : I4 186 q = Int32.ofNat (6 * r + c) := by
          rw [m9 _ _ (by omega) (by omega), k8 _ _ (by omega), k7 _ _ (by omega) (by omega), tup_ne (by omega)]
          exact e4
        have vT1 : I3 41 P = I4 186 (q + 1) := by
          rw [m7 _ _ (by omega) (by omega), c8 _ _ (by omega), m9 _ _ (by omega) (by omega), k8 _ _ (by omega)]
          exact t1
        have vT2 : I3 42 P = I4 186 (q + 2) := by
          rw [m7 _ _ (by omega) (by omega), c8 _ _ (by omega), m9 _ _ (by omega) (by omega), k8 _ _ (by omega)]
          exact t2
        have vJ : RN (Jp 39 P) x := by
          rw [m8 _ _ (by omega), j8 _ _ (by omega), j7 _ _ (by omega), j5 _ _ (by omega), j4 _ _ (by omega), j3 _ _ (by omega), tup_eq]
          exact hx
        have eP2 : (tup I3 43 P (Int32.ofNat m')) 38 0 + 1 = Int32.ofNat (P + 1) := by
          rw [tup_ne (by omega), cC _ _ (by omega) (by omega) (by omega), g1.2.1.1, oi_suc (by omega)]
        rw [eP2] at a9
        have eR2 : I4 186 2482 = Int32.ofNat P := by rw [cR _ (by omega) (by omega) (by omega)]; exact e2
        have fin : ∀ s : Int32, s = (if I4 186 (q + 1) = 0 then 1 else 0) → some ((1 : Int32), (tup (tup (tup I4 186 (q + 5) (I4 186 q)) 186 (q + 4) s) 186 2482 (Int32.ofNat (P + 1))), (tup Jr 187 (60 + P) x)) = some (y0, Iz, Jz) → PO t n b v w I1 J1 I2 J2 := fun s hsv hq' => by
          cases hq'
          have r10 : R0 t n b (tup (tup I3 43 P (Int32.ofNat m')) 38 0 (Int32.ofNat (P + 1))) Jp (tup (tup (tup I4 186 (q + 5) (I4 186 q)) 186 (q + 4) s) 186 2482 (Int32.ofNat (P + 1))) := R0_cg r9 (fun k _ => tup_ne (by omega)) (fun o k ho => tup_ne (by omega)) rfl (fun k _ _ => by rw [tup_ne (by omega), tup_ne (by omega), tup_ne (by omega)]) (fun o k ho => by rw [tup_ne (by omega), tup_ne (by omega), tup_ne (by omega)])
          rcases close_rel r10 a9 hr with ⟨rfl, rfl, hF⟩ | ⟨rfl, rfl, r11, c11, j11, k11, rfl⟩
          · exact Or.inl ⟨rfl, rfl, hF⟩
          refine Or.inr ⟨rfl, rfl, r11, P + 1, S, B, W, D, ?_⟩
          have hC : ∀ o k, 35 ≤ o → o ≤ 59 → ¬ ((o = 35 ∧ k = 3) ∨ ((o = 40 ∨ o = 41 ∨ o = 42 ∨ o = 43) ∧ k = P) ∨ (o = 44 ∧ 8 * P ≤ k ∧ k < 8 * P + 8) ∨ (o = 38 ∧ k = 0)) → I1 o k = Ic o k := fun o k q1 q2 q3 => by
            rw [c11 o k (by omega), tup_ne (by omega), tup_ne (by omega), cC o k q1 q2 (by omega)]
          have hJ : ∀ o k, 35 ≤ o → o ≤ 59 → ¬ (o = 39 ∧ k = P) → J1 o k = Jc o k := fun o k q1 q2 q3 => by
            rw [j11 o k (by omega), cJ o k q1 q2 q3]
          have hR : ∀ k, 2480 ≤ k → k < 3092 → ¬ ((q ≤ k ∧ k < q + 14) ∨ k = 2482) → I2 186 k = Is 186 k := fun k q1 q2 q3 => by
            rw [k11 _ k (by omega), tup_ne (by omega), tup_ne (by omega), tup_ne (by omega), cR k q1 q2 (by omega)]
          have hT : I2 185 20 = Is 185 20 := by
            rw [k11 _ _ (by omega), tup_ne (by omega), tup_ne (by omega), tup_ne (by omega), m9 _ _ (by omega) (by omega), k8 _ _ (by omega), k7 _ _ (by omega) (by omega), tup_ne (by omega), k5 _ _ (by omega) (by omega), k4 _ _ (by omega), k3 _ _ (by omega), k1 _ _ (by omega)]
          have hN : ∀ k, ¬ (k = 60 + P) → (tup Jr 187 (60 + P) x) 187 k = Jr 187 k := fun k q => tup_ne (by omega)
          have lv : ∀ o k, 35 ≤ o → ¬ (o = 38 ∧ k = 0) → ¬ (o = 43 ∧ k = P) → I1 o k = I3 o k := fun o k q1 q2 q3 => by
            rw [c11 o k (by omega), tup_ne q2, tup_ne q3]
          have lr : ∀ k, q ≤ k → k < q + 14 → k ≠ q + 4 → k ≠ q + 5 → I2 186 k = I4 186 k := fun k q1 q2 q3 q4 => by
            rw [k11 _ k (by omega), tup_ne (by omega), tup_ne (by omega), tup_ne (by omega)]
          have v0 : I1 38 0 = Int32.ofNat (P + 1) := by rw [c11 _ _ (by omega), tup_eq]
          have v1 : I2 186 2482 = Int32.ofNat (P + 1) := by rw [k11 _ _ (by omega), tup_eq]
          have v2 : I1 43 P = Int32.ofNat m' := by rw [c11 _ _ (by omega), tup_ne (by omega), tup_eq]
          have v3 : I2 186 (q + 4) = s := by rw [k11 _ _ (by omega), tup_ne (by omega), tup_eq]
          have v4 : I2 186 (q + 5) = I4 186 q := by rw [k11 _ _ (by omega), tup_ne (by omega), tup_ne (by omega), tup_eq]
          exact ⟨⟨⟨⟨by omega, gc.2.1, gc.2.2⟩, ⟨v0, by rw [hC _ _ (by omega) (by omega) (by omega)]; exact g1.2.1.2.1, by rw [hC _ _ (by omega) (by omega) (by omega)]; exact g1.2.1.2.2⟩, v1, by rw [hR _ (by omega) (by omega) (by omega)]; exact g1.2.2.2.1, by rw [hR _ (by omega) (by omega) (by omega)]; exact g1.2.2.2.2⟩,
      ⟨fun p hp => by
          by_cases e : p = P
          · rw [e, j11 _ _ (by omega), tup_eq]
            exact vJ
          · rw [hJ _ _ (by omega) (by omega) (by omega), hN _ (by omega)]
            exact g2.1 p (by omega), fun p hp => by rw [hJ _ _ (by omega) (by omega) (by omega), hN _ (by omega)]; exact g2.2.1 p hp, fun b hb => by rw [hJ _ _ (by omega) (by omega) (by omega), hN _ (by omega)]; exact g2.2.2 b hb⟩⟩,
      ⟨RDg_cg g3 (hC _ _ (by omega) (by omega) (by omega)) (hC _ _ (by omega) (by omega) (by omega)) (hC _ _ (by omega) (by omega) (by omega)) (hC _ _ (by omega) (by omega) (by omega)) (hR _ (by omega) (by omega) (by omega)) (hR _ (by omega) (by omega) (by omega)) (hR _ (by omega) (by omega) (by omega)) (hR _ (by omega) (by omega) (by omega)),
      RDt_cg g4 (hC _ _ (by omega) (by omega) (by omega)) hT,
      RDw_cg g5 (hJ _ _ (by omega) (by omega) (by omega)) (fun k a b => hR k (by omega) (by omega) (by omega))⟩,
      ⟨(fun p hp => by
          by_cases e : p = P
          · subst e
            rw [hq, show 2521 + 14 * p = q + 1 by omega, show 2522 + 14 * p = q + 2 by omega, show 2523 + 14 * p = q + 3 by omega, show 2524 + 14 * p = q + 4 by omega, show 2525 + 14 * p = q + 5 by omega, lv 40 p (by omega) (by omega) (by omega), lv 41 p (by omega) (by omega) (by omega), lv 42 p (by omega) (by omega) (by omega), lr q (by omega) (by omega) (by omega) (by omega), lr (q + 1) (by omega) (by omega) (by omega) (by omega), lr (q + 2) (by omega) (by omega) (by omega) (by omega), lr (q + 3) (by omega) (by omega) (by omega) (by omega), v2, v3, v4]
            exact ⟨⟨r, c, hr5, hc6, vC0, vR0⟩, ⟨vT1, vT2⟩, ⟨m', by omega, m1.2, rfl, m5, fun k hk => by
              rw [lv 44 _ (by omega) (by omega) (by omega), show 2526 + 14 * p + k = q + 6 + k by omega, lr _ (by omega) (by omega) (by omega) (by omega)]
              exact m6 k hk⟩, hsv, rfl⟩
          · have hp' : p < P := by omega
            exact RDp_cg g6 (fun o p a b hp => hC _ _ (by omega) (by omega) (by omega)) (fun k hk => hC _ _ (by omega) (by omega) (by omega)) (fun k a b => hR k (by omega) (by omega) (by omega)) p hp'),
      (fun p h1 h2 => by rw [hR _ (by omega) (by omega) (by omega), hR _ (by omega) (by omega) (by omega)]; exact g7 p (by omega) h2)⟩,
      ⟨RDs_up (RDs_cg g8 (fun o p a b hp => hC _ _ (by omega) (by omega) (by omega)) (fun k a b => hR k (by omega) (by omega) (by omega))),
      RDb_cg g9 (fun p hp => hC _ _ (by omega) (by omega) (by omega)) (fun k a b => hR k (by omega) (by omega) (by omega))⟩,
      RDz_cg g10 (fun k => hC _ _ (by omega) (by omega) (by omega)) (hC _ _ (by omega) (by omega) (by omega)) (fun k => hC _ _ (by omega) (by omega) (by omega)) (fun k a b => hR k (by omega) (by omega) (by omega)) (hR _ (by omega) (by omega) (by omega)) (hR _ (by omega) (by omega) (by omega))⟩
        have eR3 : ∀ s : Int32, (tup (tup I4 186 (q + 5) (I4 186 q)) 186 (q + 4) s) 186 2482 + 1 = Int32.ofNat (P + 1) := fun s => by
          rw [tup_ne (by omega), tup_ne (by omega), eR2, oi_suc (by omega)]
        by_cases zc : I4 186 (q + 1) = 0
        · rw [tup_ne (by omega : ¬ (186 = 186 ∧ q + 1 = q + 5)), xc_nen zc, cond_false, eR3] at b6
          exact fin 1 (by rw [if_pos zc]) b6
        · rw [tup_ne (by omega : ¬ (186 = 186 ∧ q + 1 = q + 5)), xc_ne zc, cond_true, eR3] at b6
          exact fin 0 (by rw [if_neg zc]) b6
    · have hst0 : Y = (Int32.ofNat P, 0, Im, Jm) := by
        cases hN : N with
        | zero => rw [hN] at hlc; cases hlc
        | succ N0 =>
          rw [hN] at hlc
          simp only [f86_35_l2] at hlc
          have st' : ¬ (16 ≤ (Im 8 5).toInt ∧ (Im 8 5).toInt ≤ 20) := st
          rw [show xcmp .ge (0 : Int32) 8 = false from rfl, cond_false, f85_is] at hlc
          dsimp only at hlc
          rw [if_neg st', q00, cond_true] at hlc
          cases hlc
          rfl
      subst hst0
      dsimp only at a8
      unfold f86_35_j55 at a8
      rw [oi_nat (by omega), f85_is] at a8
      dsimp only at a8
      have st' : ¬ (16 ≤ (Im 8 5).toInt ∧ (Im 8 5).toInt ≤ 20) := st
      have est : (tup Im 43 P 0) 8 5 = Im 8 5 := tup_ne (by omega)
      rw [est, if_neg st', q00, cond_true, show xcmp .gt (0 : Int32) 0 = false from rfl, cond_false, f33_is] at a8
      dsimp only at a8
      rw [q00, cond_true] at a8
      cases a8
      rw [n00, cond_false] at hc
      cases hc
      have r9 : R0 t n b (tup Im 43 P 0) J1 Io := R0_cg r8 (fun k _ => tup_ne (by omega)) (fun o k ho => tup_ne (by omega)) rfl (fun _ _ _ => rfl) (fun _ _ _ => rfl)
      have fin2 : (match f225_185 Io (tup Jr 187 (60 + P) x) 2 with | (v15, I15, J15) => some (v15, I15, J15)) = some (y0, Iz, Jz) → PO t n b 0 w (tup (tup (tup Im 43 P 0) 8 9 (if (tup Im 43 P 0) 8 2 = 4 then 1 else 2)) 8 10 ((tup Im 43 P 0) 8 3)) J1 I2 J2 := fun q => by
        rw [f225_is r9.2.1] at q
        dsimp only at q
        cases q
        rw [j278_0] at hr
        cases hr
        exact Or.inl ⟨rfl, rfl, RF_of r9 (by decide)⟩
      by_cases l4 : 4 < w1.toInt
      · rw [decide_eq_true l4, cond_true] at b6
        exact fin2 b6
      · rw [decide_eq_false l4, cond_false] at b6
        replace b6 := obI b6
        obtain ⟨w2, Iu, Ju, b9, b6⟩ := b6
        have e12 := f224_fun b8 b9
        obtain ⟨ww2, eq, -⟩ := RT_word r8.1 b9
        cases eq
        subst e12
        rw [tc_ge, show (0 : Int32).toInt = 0 from rfl, decide_eq_false (fun q => st (s1.mp ⟨q, by omega⟩)), cond_false] at b6
        exact fin2 b6
  · rw [decide_eq_false h5, cond_false, f33_is] at hc
    dsimp only at hc
    cases hc
    have e0 : P = 5 := by omega
    unfold f236_185 at b1
    rw [show ((2480 : Int32) + 2).toNatClampNeg = 2482 from rfl, e2, e0, xc_nen (show Int32.ofNat 5 = 5 from rfl), cond_false, f225_is hs.2.1] at b1
    dsimp only at b1
    cases b1
    rw [q00, cond_true] at b0
    cases b0
    rw [j278_0] at hr
    cases hr
    exact Or.inl ⟨rfl, rfl, RF_of hs (by decide)⟩
end PG
