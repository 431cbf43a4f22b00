section DYP
variable {N N' P S B W D s s' : Nat} {Ic Ir I1 I2 I3 I : tI} {Jc Jr J1 J2 J : tJ} {u u' : Unit} {v w : Int32}
theorem hc_c {x y : Int32} (h0 : I 11 0 = Int32.ofNat W) (h1 : I 11 1 = Int32.ofNat D) (hW : W ≤ 6) (hD : D ≤ 5) : f46_11 I J x y = (if 0 ≤ x.toInt ∧ x.toInt < W ∧ 0 ≤ y.toInt ∧ y.toInt < D then 1 else 0, I, J) := by
  unfold f46_11
  rw [h0, h1, tc_lt, tc_ge, tc_lt, tc_ge, oi_int (by omega), oi_int (by omega), show (0 : Int32).toInt = 0 from rfl]
  by_cases a : x.toInt < 0
  · rw [decide_eq_true a, cond_true, if_neg (by omega)]
  · rw [decide_eq_false a, cond_false]
    by_cases b : (W : Int) ≤ x.toInt
    · rw [decide_eq_true b, cond_true, if_neg (by omega)]
    · rw [decide_eq_false b, cond_false]
      by_cases c : y.toInt < 0
      · rw [decide_eq_true c, cond_true, if_neg (by omega)]
      · rw [decide_eq_false c, cond_false]
        by_cases d : (D : Int) ≤ y.toInt
        · rw [decide_eq_true d, cond_true, if_neg (by omega)]
        · rw [decide_eq_false d, cond_false, if_pos (by omega)]
theorem cel_c {r c : Nat} : (10 : Int32) * Int32.ofNat r + Int32.ofNat c = Int32.ofNat (10 * r + c) := by
  rw [show (10 : Int32) * Int32.ofNat r = Int32.ofNat (10 * r) from oi_mul (a := 10), oi_add]
theorem cel_r {r c : Nat} : (6 : Int32) * Int32.ofNat r + Int32.ofNat c = Int32.ofNat (6 * r + c) := by
  rw [show (6 : Int32) * Int32.ofNat r = Int32.ofNat (6 * r) from oi_mul (a := 6), oi_add]
theorem wl_c {k : Nat} (hk : k < 64) : f47_11 I J (Int32.ofNat k) = (if wb (J 11 2) k = true then 1 else 0, I, J) := by
  unfold f47_11
  rw [wb_is hk]
  cases wb (J 11 2) k with
  | true => rw [if_pos rfl, q10, cond_false]
  | false => rw [if_neg (by decide), q00, cond_true]
theorem std_run {x : Int32} (hx : x ≠ -1) (hP : P ≤ 5) (h0 : I 12 0 = Int32.ofNat P) : ∀ (k p : Nat) {Y : Nat × Int32 × Int32 × tI × tJ}, p ≤ P → f13_12_l2 N k I J x (Int32.ofNat p) = some Y → Y.2.2.2 = (I, J) ∧ (if Y.1 = 0 then (-1 : Int32) else Y.2.2.1) = fdN (fun i => decide (I 19 i = 1 ∧ I 20 i = x)) (P - p) p
  | 0, _, _, _, h => by cases h
  | k + 1, p, Y, hp, h => by
    simp only [f13_12_l2] at h
    rw [h0, oi_ge (by omega) (by omega)] at h
    by_cases hpm : P ≤ p
    · rw [decide_eq_true hpm, cond_true] at h
      cases h
      rw [show P - p = 0 by omega]
      exact ⟨rfl, rfl⟩
    · rw [decide_eq_false hpm, cond_false, f12_12_is (by omega)] at h
      dsimp only at h
      rw [show P - p = (P - (p + 1)) + 1 by omega]
      simp only [fdN]
      by_cases a : I 19 p = 1 ∧ I 20 p = x
      · rw [if_pos a.1, xc_nen a.2, cond_false] at h
        cases h
        rw [decide_eq_true a, cond_true]
        exact ⟨rfl, rfl⟩
      · have ne : (if I 19 p = 1 then I 20 p else -1) ≠ x := by
          by_cases b : I 19 p = 1
          · rw [if_pos b]
            exact fun q => a ⟨b, q⟩
          · rw [if_neg b]
            exact fun q => hx q.symm
        rw [xc_ne ne, cond_true, oi_suc (by omega)] at h
        rw [decide_eq_false a, cond_false]
        exact std_run hx hP h0 k (p + 1) (by omega) h
theorem std_c {x : Int32} {q : Int32 × tI × tJ} (hx : x ≠ -1) (hP : P ≤ 5) (h0 : I 12 0 = Int32.ofNat P) (h : f13_12 N I J x = some q) : q = (fdN (fun i => decide (I 19 i = 1 ∧ I 20 i = x)) P 0, I, J) := by
  unfold f13_12 at h
  cases hc : f13_12_l2 N N I J x 0 with
  | none => rw [hc] at h; cases h
  | some Y =>
    rw [hc] at h
    obtain ⟨a, b⟩ := std_run hx hP h0 N 0 (Nat.zero_le _) hc
    obtain ⟨k1, y1, y2, Ia, Ja⟩ := Y
    dsimp only at h a b
    cases a
    rw [Nat.sub_zero] at b
    rw [← b]
    cases hk : Nat.beq k1 0 with
    | true =>
      rw [hk, cond_true] at h
      rw [if_pos (Nat.eq_of_beq_eq_true hk)]
      cases h
      rfl
    | false =>
      rw [hk, cond_false] at h
      rw [if_neg (fun q => by rw [q] at hk; cases hk)]
      cases h
      rfl
/-- who stands in a cell, both ways -/
theorem std_rel {r c : Nat} (hW : WPQ P S B W D s Ic Jc Ir Jr) (hr' : r < D) (hc' : c < W) : fdN (fun i => decide (Ic 19 i = 1 ∧ Ic 20 i = Int32.ofNat (10 * r + c))) P 0 = fdN (fun i => decide (Ir 186 (40 + 14 * i + 4) = 1 ∧ Ir 186 (40 + 14 * i + 5) = Int32.ofNat (6 * r + c))) P 0 :=
  fdN_cg (m := P) (fun i hi => decide_eq_decide.mpr (FKp_occ (F := 12) (WPQ_FR hW).2.2.2.2 hi ⟨(WPQ_FR hW).1.2.1, (WPQ_FR hW).1.2.2.1⟩ hr' hc')) P 0 (by omega)
theorem who_rel {a b : Int32} (h : WQ 10 0 0 Ic Jc Ir Jr) (hc : f148_0 N Ic Jc a b = some (v, I1, J1)) (hr : f273_185 N' Ir Jr a b = some (w, I2, J2)) : v = w := by
  obtain ⟨P, S, B, W, D, s, hW⟩ := h
  obtain ⟨⟨g1, gW, gD, gs⟩, ⟨k0, k1, k2, k3⟩, ⟨m0, m1, m2, m3⟩, hw, hF⟩ := WPQ_FR hW
  unfold f148_0 at hc
  unfold f273_185 at hr
  rw [hc_c k0 k1 gW gD] at hc
  rw [f253_is m0 m1 gW gD] at hr
  dsimp only at hc hr
  by_cases q : 0 ≤ a.toInt ∧ a.toInt < W ∧ 0 ≤ b.toInt ∧ b.toInt < D
  · rw [if_pos q] at hc hr
    rw [n10, cond_true] at hc
    rw [q10, cond_false] at hr
    obtain ⟨c, hcn, rfl⟩ := nat_i q.1
    obtain ⟨r, hrn, rfl⟩ := nat_i q.2.2.1
    rw [oi_int hcn, oi_int hrn] at q
    unfold f43 at hc
    dsimp only at hc
    rw [cel_c] at hc
    rw [cel_r] at hr
    replace hc := obI hc
    obtain ⟨v1, Ia, Ja, e1, hc⟩ := hc
    replace hr := obI hr
    obtain ⟨v2, Ib, Jb, e2, hr⟩ := hr
    have x1 := std_c (oi_m1 (by omega)) g1 k2 e1
    have x2 := f264_is g1 m2 e2
    rw [std_rel hW (by omega) (by omega)] at x1
    cases x1
    cases x2
    generalize fdN _ _ _ = y at hc hr
    unfold f125_0 f121_0 f122_0 at hc
    unfold f207_185 f206_185 f205_185 at hr
    dsimp only at hc hr
    by_cases z : y = -1
    · rw [xc_nen z, cond_false] at hc hr
      cases hc
      cases hr
      rfl
    · rw [xc_ne z, cond_true] at hc hr
      cases hc
      cases hr
      rfl
  · rw [if_neg q] at hc hr
    rw [n00, cond_false] at hc
    rw [q00, cond_true] at hr
    unfold f122_0 at hc
    unfold f205_185 at hr
    cases hc
    cases hr
    rfl
theorem wallat_rel {a b : Int32} (h : WQ 10 0 0 Ic Jc Ir Jr) (hc : f149_0 Ic Jc a b = (v, I1, J1)) (hr : f274_185 Ir Jr a b = (w, I2, J2)) : v = w := by
  obtain ⟨P, S, B, W, D, s, hW⟩ := h
  obtain ⟨⟨g1, gW, gD, gs⟩, ⟨k0, k1, k2, k3⟩, ⟨m0, m1, m2, m3⟩, hw, hF⟩ := WPQ_FR hW
  unfold f149_0 at hc
  unfold f274_185 at hr
  rw [hc_c k0 k1 gW gD] at hc
  rw [f253_is m0 m1 gW gD] at hr
  dsimp only at hc hr
  by_cases q : 0 ≤ a.toInt ∧ a.toInt < W ∧ 0 ≤ b.toInt ∧ b.toInt < D
  · rw [if_pos q] at hc hr
    rw [n10, cond_true] at hc
    rw [q10, cond_false] at hr
    obtain ⟨c, hcn, rfl⟩ := nat_i q.1
    obtain ⟨r, hrn, rfl⟩ := nat_i q.2.2.1
    rw [oi_int hcn, oi_int hrn] at q
    unfold f43 at hc
    dsimp only at hc
    rw [cel_c, wl_c (by omega)] at hc
    rw [show (10 : Int32) + 6 * Int32.ofNat r + Int32.ofNat c = Int32.ofNat (10 + (6 * r + c)) by
      rw [show (6 : Int32) * Int32.ofNat r = Int32.ofNat (6 * r) from oi_mul (a := 6), show (10 : Int32) + Int32.ofNat (6 * r) = Int32.ofNat (10 + 6 * r) from oi_add (a := 10), oi_add, Nat.add_assoc], oi_nat (by omega), hw r c (by omega) (by omega)] at hr
    dsimp only at hc
    unfold f121_0 at hc
    unfold f206_185 at hr
    dsimp only at hc hr
    by_cases z : wb (Jc 11 2) (10 * r + c) = true
    · rw [if_pos z] at hc hr
      rw [q10, cond_false] at hc
      cases hc
      cases hr
      rfl
    · rw [if_neg z] at hc hr
      rw [q00, cond_true] at hc
      cases hc
      cases hr
      rfl
  · rw [if_neg q] at hc hr
    rw [n00, cond_false] at hc
    rw [q00, cond_true] at hr
    unfold f122_0 at hc
    unfold f205_185 at hr
    cases hc
    cases hr
    rfl
theorem wb_xor {x : Int64} {k j : Nat} (hk : k < 64) : wb (x ^^^ ((1 : Int64) <<< ((Int32.toInt64 (Int32.ofNat k)) &&& 63))) j = (wb x j != decide (k = j)) := by
  have hs := List.all_eq_true.mp shc k (List.mem_range.mpr hk)
  rw [Bool.and_eq_true] at hs
  unfold wb
  rw [Int64.toBitVec_xor, BitVec.getLsbD_xor, of_decide_eq_true hs.2, BitVec.getLsbD_twoPow, decide_eq_true hk, Bool.true_and]
/-- a wall built or taken down -/
theorem WPQ_w {r c : Nat} {x : Int32} (h : WPQ P S B W D s Ic Jc Ir Jr) (hr' : r < 5) (hc' : c < 6) (hx : x = if wb (Jc 11 2) (10 * r + c) = true then 0 else 1) : WPQ P S B W D s Ic (tup Jc 11 2 ((Jc 11 2) ^^^ ((1 : Int64) <<< ((Int32.toInt64 (Int32.ofNat (10 * r + c))) &&& 63)))) (tup Ir 186 (10 + (6 * r + c)) x) Jr := by
  obtain ⟨⟨⟨⟨g1, g2, g3⟩, ⟨g4, g5⟩, g6⟩, ⟨a1, a2, a3, a4, a5, a6⟩, ⟨b1, b2, b3, b4, b5, b6⟩, b7, b8⟩, hw, hf, hs0, hb0, ho0, ht⟩ := id h
  have g : ∀ k, k < 10 ∨ 40 ≤ k → tup Ir 186 (10 + (6 * r + c)) x 186 k = Ir 186 k := fun k q => tup_ne (by omega)
  refine ⟨⟨⟨⟨g1, g2, g3⟩, ⟨g4, g5⟩, g6⟩, ⟨a1, a2, a3, a4, a5, a6⟩, ⟨?_, ?_, ?_, ?_, ?_, ?_⟩, ?_, ?_⟩, fun r' c2 hr2 hc2 => ?_, fun p hp => ?_, fun i hi => ?_, fun y hy => ?_, fun k hk => ?_, ?_⟩
  · rw [g _ (by omega)]; exact b1
  · rw [g _ (by omega)]; exact b2
  · rw [g _ (by omega)]; exact b3
  · rw [g _ (by omega)]; exact b4
  · rw [g _ (by omega)]; exact b5
  · rw [g _ (by omega)]; exact b6
  · rw [g _ (by omega)]; exact b7
  · rw [g _ (by omega)]; exact b8
  · have hw2 : Ir 186 (10 + (6 * r' + c2)) = if wb (Jc 11 2) (10 * r' + c2) = true then 1 else 0 := hw r' c2 hr2 hc2
    show tup Ir 186 (10 + (6 * r + c)) x 186 (10 + (6 * r' + c2)) = if wb (tup Jc 11 2 ((Jc 11 2) ^^^ ((1 : Int64) <<< ((Int32.toInt64 (Int32.ofNat (10 * r + c))) &&& 63))) 11 2) (10 * r' + c2) = true then 1 else 0
    rw [tup_eq, wb_xor (by omega)]
    by_cases e : r' = r ∧ c2 = c
    · obtain ⟨rfl, rfl⟩ := e
      rw [tup_eq, hx, decide_eq_true rfl]
      cases wb (Jc 11 2) (10 * r' + c2) <;> rfl
    · rw [tup_ne (by omega), hw2, decide_eq_false (by omega)]
      cases wb (Jc 11 2) (10 * r' + c2) <;> rfl
  · obtain ⟨p1, ⟨p2, p3⟩, ⟨m, m1, m8, p4, p5, p6⟩, p7, p8⟩ := hf p hp
    rw [g (0 + 40 + 14 * p) (by omega), g (0 + 40 + 14 * p + 1) (by omega), g (0 + 40 + 14 * p + 2) (by omega), g (0 + 40 + 14 * p + 3) (by omega), g (0 + 40 + 14 * p + 4) (by omega), g (0 + 40 + 14 * p + 5) (by omega)]
    exact ⟨p1, ⟨p2, p3⟩, ⟨m, m1, m8, p4, p5, fun k hk => by rw [g (0 + 40 + 14 * p + 6 + k) (by omega)]; exact p6 k hk⟩, p7, p8⟩
  · rw [g (0 + 110 + 3 * i) (by omega), g (0 + 110 + 3 * i + 1) (by omega), g (0 + 110 + 3 * i + 2) (by omega)]
    exact hs0 i hi
  · rw [g (0 + 128 + y) (by omega)]
    exact hb0 y hy
  · rw [g (0 + 132 + k) (by omega)]
    exact ho0 k hk
  · refine ⟨fun p hp => ?_, fun i hi => ?_, fun y hy => ?_⟩
    · rw [tup_ne (by omega)]; exact ht.1 p hp
    · rw [tup_ne (by omega)]; exact ht.2.1 i hi
    · rw [tup_ne (by omega)]; exact ht.2.2 y hy
theorem build_rel {a b : Int32} {x : Int32} (hx01 : x = 0 ∨ x = 1) (h : RV WQ Ic Jc Ir Jr) (hc : f162_0 N Ic Jc a b x = some (v, I1, J1)) (hr : f293_185 N' Ir Jr a b x = some (w, I2, J2)) : v = w ∧ RV WQ I1 J1 I2 J2 := by
  obtain ⟨P, S, B, W, D, s, hW⟩ := id h.1
  obtain ⟨⟨g1, gW, gD, gs⟩, ⟨k0, k1, k2, k3⟩, ⟨m0, m1, m2, m3⟩, hw, hF⟩ := WPQ_FR hW
  have rej : ∀ {y : Int32}, y ≠ 0 → f124_0 Ic Jc y = (v, I1, J1) → f204_185 Ir Jr y = (w, I2, J2) → v = w ∧ RV WQ I1 J1 I2 J2 := fun y0 q1 q2 => by
    unfold f124_0 at q1
    unfold f204_185 at q2
    rw [xc_ne y0, cond_true] at q2
    cases q1
    cases q2
    exact ⟨rfl, RQ_st h⟩
  unfold f162_0 at hc
  unfold f293_185 at hr
  rw [hc_c k0 k1 gW gD] at hc
  rw [f253_is m0 m1 gW gD] at hr
  dsimp only at hc hr
  by_cases q : 0 ≤ a.toInt ∧ a.toInt < W ∧ 0 ≤ b.toInt ∧ b.toInt < D
  · rw [if_pos q, n10, cond_true] at hc hr
    obtain ⟨c, hcn, rfl⟩ := nat_i q.1
    obtain ⟨r, hrn, rfl⟩ := nat_i q.2.2.1
    rw [oi_int hcn, oi_int hrn] at q
    unfold f43 at hc
    dsimp only at hc
    rw [cel_c, wl_c (by omega)] at hc
    rw [cel_r] at hr
    dsimp only at hc
    replace hr := obI hr
    obtain ⟨v2, Ib, Jb, e2, hr⟩ := hr
    have x2 := f264_is g1 m2 e2
    cases x2
    rw [f262_is (by omega), hw r c (by omega) (by omega)] at hr
    dsimp only at hr
    have z01 : (if (if wb (Jc 11 2) (10 * r + c) = true then (1 : Int32) else 0) = 1 then (1 : Int32) else 0) = if wb (Jc 11 2) (10 * r + c) = true then 1 else 0 := by
      cases wb (Jc 11 2) (10 * r + c) <;> rfl
    rw [z01] at hr
    have hst := std_rel hW (r := r) (c := c) (by omega) (by omega)
    generalize fdN (fun i => decide (Ir 186 (40 + 14 * i + 4) = 1 ∧ Ir 186 (40 + 14 * i + 5) = Int32.ofNat (6 * r + c))) P 0 = y at hr hst
    have wall_eq : ∀ {z : Int32}, z = (if wb (Jc 11 2) (10 * r + c) = true then 1 else 0) → z ≠ x → x = if wb (Jc 11 2) (10 * r + c) = true then 0 else 1 := fun {z} e1 e2 => by
      cases hwb : wb (Jc 11 2) (10 * r + c) with
      | true =>
        rw [hwb, if_pos rfl] at e1
        rw [if_pos rfl]
        rcases hx01 with rfl | rfl
        · rfl
        · exact absurd e1 e2
      | false =>
        rw [hwb, if_neg (by decide)] at e1
        rw [if_neg (by decide)]
        rcases hx01 with rfl | rfl
        · exact absurd e1 e2
        · rfl
    generalize hz : (if wb (Jc 11 2) (10 * r + c) = true then (1 : Int32) else 0) = z at hc hr
    by_cases e : z = x
    · rw [xc_eq e, cond_true] at hc
      have hr' : some (f204_185 Ir Jr 7) = some (w, I2, J2) := by
        by_cases y1 : y = -1
        · rw [xc_nen y1, cond_false, xc_nen e, cond_false] at hr
          exact hr
        · rw [xc_ne y1, cond_true] at hr
          exact hr
      cases hc
      exact rej (y := 7) (by decide) rfl (Option.some.inj hr')
    · rw [xc_eqn e, cond_false] at hc
      replace hc := obI hc
      obtain ⟨v1, Ia, Ja, e1, hc⟩ := hc
      have x1 := std_c (oi_m1 (by omega)) g1 k2 e1
      rw [hst] at x1
      cases x1
      by_cases y1 : y = -1
      · rw [xc_eq y1, cond_true] at hc
        rw [xc_nen y1, cond_false, xc_ne e, cond_true] at hr
        have hnew := WPQ_w hW (r := r) (c := c) (by omega) (by omega) (wall_eq hz.symm e)
        have hr' : w = 1 ∧ I2 = tup (tup Ir 186 (10 + (6 * r + c)) x) 185 2 0 ∧ J2 = Jr := by
          rw [show (10 : Int32) + Int32.ofNat (6 * r + c) = Int32.ofNat (10 + (6 * r + c)) from oi_add (a := 10), oi_nat (by omega)] at hr
          unfold f204_185 at hr
          rcases hx01 with rfl | rfl
          · rw [q00, cond_true, n00, cond_false] at hr
            cases hr
            exact ⟨rfl, rfl, rfl⟩
          · rw [q10, cond_false, n00, cond_false] at hr
            cases hr
            exact ⟨rfl, rfl, rfl⟩
        obtain ⟨rfl, rfl, rfl⟩ := hr'
        unfold f123_0 at hc
        cases hc
        exact ⟨rfl, RQ_st ⟨⟨P, S, B, W, D, s, hnew⟩, MV_cp CPQ h.2 (fun o k q => ⟨rfl, tup_ne (by omega)⟩) rfl (fun k q => tup_ne (by omega)) (fun _ _ => rfl) (tup_ne (by omega))⟩⟩
      · rw [xc_eqn y1, cond_false] at hc
        rw [xc_ne y1, cond_true] at hr
        cases hc
        cases hr
        exact rej (y := 7) (by decide) rfl rfl
  · rw [if_neg q, n00, cond_false] at hc hr
    cases hc
    cases hr
    exact rej (y := 1) (by decide) rfl rfl
end DYP
