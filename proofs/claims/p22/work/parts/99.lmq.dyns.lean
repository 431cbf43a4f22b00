section DYS
variable {N N' P S B W D s s' : Nat} {Ic Ir I1 I2 I3 I : tI} {Jc Jr J1 J2 J : tJ} {u u' : Unit} {v w : Int32}
/-- somebody is put elsewhere -/
theorem FR_cell {p r c : Nat} (h : FR 12 11 P W D s Ic Jc Ir) (hp : p < P) (hr' : r < D) (hc' : c < W) : FR 12 11 P W D s (tup Ic 20 p (Int32.ofNat (10 * r + c))) Jc (tup Ir 186 (40 + 14 * p + 5) (Int32.ofNat (6 * r + c))) := by
  obtain ⟨⟨f1, f2, f3, f4⟩, ⟨k0, k1, k2, k3⟩, ⟨m0, m1, m2, m3⟩, hw, hF⟩ := h
  refine ⟨⟨f1, f2, f3, f4⟩, ⟨?_, ?_, ?_, ?_⟩, ⟨?_, ?_, ?_, ?_⟩, fun r c' hr hc' => ?_, fun p2 hp2 => ?_⟩
  · rw [tup_ne (by omega)]; exact k0
  · rw [tup_ne (by omega)]; exact k1
  · rw [tup_ne (by omega)]; exact k2
  · rw [tup_ne (by omega)]; exact k3
  · rw [tup_ne (by omega)]; exact m0
  · rw [tup_ne (by omega)]; exact m1
  · rw [tup_ne (by omega)]; exact m2
  · rw [tup_ne (by omega)]; exact m3
  · rw [tup_ne (by omega)]; exact hw r c' hr hc'
  · obtain ⟨p1, ⟨p2', p3⟩, ⟨m, n1, n8, p4, p5, p6⟩, p7, p8⟩ := hF p2 hp2
    have cf : ∀ o k, 10 < o → o < 20 → tup Ic 20 p (Int32.ofNat (10 * r + c)) o k = Ic o k := fun o k q1 q2 => tup_ne (by omega)
    have g : ∀ k, k ≠ 40 + 14 * p + 5 → tup Ir 186 (40 + 14 * p + 5) (Int32.ofNat (6 * r + c)) 186 k = Ir 186 k := fun k q => tup_ne (by omega)
    rw [cf (12 + 2) _ (by omega) (by omega), cf (12 + 3) _ (by omega) (by omega), cf (12 + 4) _ (by omega) (by omega), cf (12 + 5) _ (by omega) (by omega), cf (12 + 7) _ (by omega) (by omega), g (40 + 14 * p2) (by omega), g (40 + 14 * p2 + 1) (by omega), g (40 + 14 * p2 + 2) (by omega), g (40 + 14 * p2 + 3) (by omega), g (40 + 14 * p2 + 4) (by omega)]
    refine ⟨p1, ⟨p2', p3⟩, ⟨m, n1, n8, p4, p5, fun k hk => by rw [cf (12 + 6) _ (by omega) (by omega), g (40 + 14 * p2 + 6 + k) (by omega)]; exact p6 k hk⟩, p7, ?_⟩
    by_cases e : p2 = p
    · subst e
      rw [tup_eq, tup_eq]
      exact ⟨r, _, hr', hc', rfl, rfl⟩
    · rw [tup_ne (by omega), tup_ne (by omega)]
      exact p8
theorem place_rel {a x y : Int32} (h : RV WQ Ic Jc Ir Jr) (hc : f164_0 N Ic Jc a x y = some (v, I1, J1)) (hr : f295_185 N' Ir Jr a x y = some (w, I2, J2)) : v = w ∧ RV WQ I1 J1 I2 J2 := by
  obtain ⟨P, S, B, W, D, s, hW⟩ := id h.1
  have hFR := WPQ_FR hW
  obtain ⟨⟨g1, gW, gD, gs⟩, ⟨k0, k1, k2, k3⟩, ⟨m0, m1, m2, m3⟩, hw, hF⟩ := id hFR
  have gs9 : s ≤ 999 := hW.1.1.2.2
  have rej : ∀ {y : Int32}, y ≠ 0 → f124_0 Ic Jc y = (v, I1, J1) → f204_185 Ir Jr y = (w, I2, J2) → v = w ∧ RV WQ I1 J1 I2 J2 := fun y0 q1 q2 => by
    unfold f124_0 at q1
    unfold f204_185 at q2
    rw [xc_ne y0, cond_true] at q2
    cases q1
    cases q2
    exact ⟨rfl, RQ_st h⟩
  unfold f164_0 at hc
  unfold f295_185 at hr
  rw [isp_c k2 g1] at hc
  rw [isp_r m2 g1] at hr
  dsimp only at hc hr
  by_cases ha : 0 ≤ a.toInt ∧ a.toInt < P
  · rw [if_pos ha, q10, cond_false, hc_c k0 k1 gW gD] at hc
    rw [if_pos ha, q10, cond_false, f253_is m0 m1 gW gD] at hr
    dsimp only at hc hr
    by_cases q : 0 ≤ x.toInt ∧ x.toInt < W ∧ 0 ≤ y.toInt ∧ y.toInt < D
    · rw [if_pos q, n10, cond_true] at hc hr
      obtain ⟨p, hpn, rfl⟩ := nat_i ha.1
      obtain ⟨c, hcn, rfl⟩ := nat_i q.1
      obtain ⟨r, hrn, rfl⟩ := nat_i q.2.2.1
      rw [oi_int hcn, oi_int hrn] at q
      rw [oi_int hpn] at ha
      unfold f43 at hc
      dsimp only at hc
      rw [cel_c, f12_12_is (by omega)] at hc
      rw [cel_r, f261_is (by omega)] at hr
      dsimp only at hc hr
      obtain ⟨-, -, -, f5, r2, c2, q1, q2, q3, q4⟩ := hF p (by omega)
      have f5 := STp_1 f5
      have q3 : Ic 20 p = Int32.ofNat (10 * r2 + c2) := q3
      have f5 : Ic 19 p = 1 ↔ Ir 186 (40 + 14 * p + 4) = 1 := f5
      by_cases st : Ic 19 p = 1
      · rw [if_pos st, q3, xc_eqn (oi_m1 (by omega)), cond_false] at hc
        rw [if_pos (f5.mp st), q10, cond_false, f262_is (by omega)] at hr
        dsimp only at hr
        replace hc := obI hc
        obtain ⟨v1, Ia, Ja, e1, hc⟩ := hc
        have fr : ((wb (Jc 11 2) (10 * r + c) = false ∧ ∀ i, i < P → ¬ (Ic 19 i = 1 ∧ Ic 20 i = Int32.ofNat (10 * r + c))) ↔ (Ir 186 (10 + (6 * r + c)) ≠ 1 ∧ ∀ i, i < P → ¬ (Ir 186 (40 + 14 * i + 4) = 1 ∧ Ir 186 (40 + 14 * i + 5) = Int32.ofNat (6 * r + c)))) := by
          have e1 : wb (Jc 11 2) (10 * r + c) = false ↔ Ir 186 (10 + (6 * r + c)) ≠ 1 := by
            rw [hw r c (by omega) (by omega)]
            cases wb (Jc 11 2) (10 * r + c) <;> decide
          have e2 : ∀ i, i < P → ((Ic 19 i = 1 ∧ Ic 20 i = Int32.ofNat (10 * r + c)) ↔ (Ir 186 (40 + 14 * i + 4) = 1 ∧ Ir 186 (40 + 14 * i + 5) = Int32.ofNat (6 * r + c))) := fun i hi => FKp_occ hF hi ⟨gW, gD⟩ (by omega) (by omega)
          rw [e1]
          exact ⟨fun q => ⟨q.1, fun i hi h => q.2 i hi ((e2 i hi).mpr h)⟩, fun q => ⟨q.1, fun i hi h => q.2 i hi ((e2 i hi).mp h)⟩⟩
        have ref : (w = 1 ∧ (Ir 186 (10 + (6 * r + c)) ≠ 1 ∧ ∀ i, i < P → ¬ (Ir 186 (40 + 14 * i + 4) = 1 ∧ Ir 186 (40 + 14 * i + 5) = Int32.ofNat (6 * r + c))) ∧ I2 = tup (tup Ir 186 (40 + 14 * p + 5) (Int32.ofNat (6 * r + c))) 185 2 0 ∧ J2 = Jr) ∨ (¬ (Ir 186 (10 + (6 * r + c)) ≠ 1 ∧ ∀ i, i < P → ¬ (Ir 186 (40 + 14 * i + 4) = 1 ∧ Ir 186 (40 + 14 * i + 5) = Int32.ofNat (6 * r + c))) ∧ f204_185 Ir Jr 7 = (w, I2, J2)) := by
          by_cases z : Ir 186 (10 + (6 * r + c)) = 1
          · rw [if_pos z, n10, cond_true] at hr
            exact Or.inr ⟨fun q => q.1 z, Option.some.inj hr⟩
          · rw [if_neg z, n00, cond_false] at hr
            replace hr := obI hr
            obtain ⟨v2, Ib, Jb, e2, hr⟩ := hr
            obtain ⟨v3, e3, e4⟩ := f264_free g1 m2 e2
            cases e3
            by_cases y1 : v2 = -1
            · rw [xc_eq y1, cond_true] at hr
              unfold f251 f204_185 at hr
              dsimp only at hr
              rw [n00, cond_false, show (40 : Int32) + 14 * Int32.ofNat p + 5 = Int32.ofNat (40 + 14 * p + 5) by
                rw [show (14 : Int32) * Int32.ofNat p = Int32.ofNat (14 * p) from oi_mul (a := 14), show (40 : Int32) + Int32.ofNat (14 * p) = Int32.ofNat (40 + 14 * p) from oi_add (a := 40)]
                exact oi_add (b := 5), oi_nat (by omega)] at hr
              cases hr
              exact Or.inl ⟨rfl, ⟨z, e4.mp y1⟩, rfl, rfl⟩
            · rw [xc_eqn y1, cond_false] at hr
              exact Or.inr ⟨fun q => y1 (e4.mpr q.2), Option.some.inj hr⟩
        rcases f14_12_is g1 k2 (by omega) e1 with ⟨q5, g⟩ | ⟨q5, g⟩
        · cases q5
          rw [n10, cond_true, oi_nat (by omega)] at hc
          unfold f123_0 at hc
          cases hc
          rcases ref with ⟨rfl, -, rfl, rfl⟩ | ⟨n, -⟩
          · refine ⟨rfl, RQ_st (RQ_up h ⟨P, S, B, W, D, s, WPQ_up hW (FR_cell hFR (by omega) (by omega) (by omega)) gs9 (fun o k q1 q2 q3 q4 q5 => tup_ne (by omega)) (fun o k q => tup_ne (by omega)) (fun i hi => ?_) (fun k hk => ?_)⟩ (fun o k q1 q2 q3 q4 q5 => tup_ne (by omega)) (fun o k q => tup_ne (by omega)))⟩
            · rw [tup_ne (by omega), tup_ne (by omega)]
              exact hW.2.2.2.2.1 i hi
            · rw [tup_ne (by omega), tup_ne (by omega)]
              exact hW.2.2.2.2.2.1 k hk
          · exact absurd (fr.mp g) n
        · cases q5
          rw [n00, cond_false] at hc
          cases hc
          rcases ref with ⟨-, y1, -⟩ | ⟨-, q6⟩
          · exact absurd (fr.mpr y1) g
          · exact rej (y := 7) (by decide) rfl q6
      · rw [if_neg st, show xcmp .eq (-1 : Int32) (-1) = true from rfl, cond_true] at hc
        rw [if_neg (fun z => st (f5.mpr z)), q00, cond_true] at hr
        cases hc
        cases hr
        exact rej (y := 7) (by decide) rfl rfl
    · rw [if_neg q, n00, cond_false] at hc hr
      cases hc
      cases hr
      exact rej (y := 1) (by decide) rfl rfl
  · rw [if_neg ha, q00, cond_true] at hc hr
    cases hc
    cases hr
    exact rej (y := 1) (by decide) rfl rfl
theorem six_div {r c : Nat} (hr' : r < 5) (hc' : c < 6) : Int32.ofNat (6 * r + c) / 6 = Int32.ofNat r ∧ Int32.ofNat (6 * r + c) - Int32.ofNat (6 * r + c) / 6 * 6 = Int32.ofNat c := d6_at hr' hc'
theorem personat_rel {a b : Int32} (h : WQ 10 0 0 Ic Jc Ir Jr) (hc : f150_0 Ic Jc a b = (v, I1, J1)) (hr : f275_185 Ir Jr a b = (w, I2, J2)) : v = w := by
  obtain ⟨P, S, B, W, D, s, hW⟩ := h
  obtain ⟨⟨g1, gW, gD, gs⟩, ⟨k0, k1, k2, k3⟩, ⟨m0, m1, m2, m3⟩, hw, hF⟩ := WPQ_FR hW
  unfold f150_0 at hc
  unfold f275_185 at hr
  rw [isp_c k2 g1] at hc
  rw [isp_r m2 g1] at hr
  dsimp only at hc hr
  by_cases ha : 0 ≤ a.toInt ∧ a.toInt < P
  · rw [if_pos ha, q10, cond_false, f127_is, show (0 : Int32).toInt = 0 from rfl, show (4 : Int32).toInt = 4 from rfl] at hc
    rw [if_pos ha, q10, cond_false, tc_lt, tc_le, show (0 : Int32).toInt = 0 from rfl, show (4 : Int32).toInt = 4 from rfl] at hr
    dsimp only at hc
    by_cases hb : 0 ≤ b.toInt ∧ b.toInt ≤ 4
    · rw [if_pos hb, n10, cond_true] at hc
      rw [decide_eq_false (by omega), cond_false, decide_eq_true hb.2, cond_true] at hr
      obtain ⟨p, hpn, rfl⟩ := nat_i ha.1
      rw [oi_int hpn] at ha
      rw [f12_12_is (by omega)] at hc
      rw [f261_is (by omega)] at hr
      dsimp only at hc hr
      rw [oi_nat (by omega)] at hc
      obtain ⟨-, ⟨c1, c2⟩, ⟨m, n1, n8, c3, c4, -⟩, f5, r2, c5, q1, q2, q3, q4⟩ := hF p (by omega)
      have f5 : Ic 19 p = 1 ↔ Ir 186 (40 + 14 * p + 4) = 1 := STp_1 f5
      have q3 : Ic 20 p = Int32.ofNat (10 * r2 + c5) := q3
      have c1 : Ic 15 p = Ir 186 (40 + 14 * p + 1) := c1
      have c2 : Ic 16 p = Ir 186 (40 + 14 * p + 2) := c2
      have c3 : Ic 17 p = Int32.ofNat m := c3
      obtain ⟨t1, t2⟩ := d10_at (r := r2) (c := c5) (by omega) (by omega)
      obtain ⟨t3, t4⟩ := d6_at (r := r2) (c := c5) (by omega) (by omega)
      unfold f44 f45 f125_0 f121_0 f122_0 at hc
      -- the reference, whatever the place told
      have rr : ∀ s0 : Int32, f275_185_j41 Ir Jr (Int32.ofNat p) b s0 = (w, I2, J2) → w = if b = 0 ∨ b = 1 then (if s0 = -1 then -1 else if b = 0 then s0 - s0 / 6 * 6 else s0 / 6) else if b = 2 then Ir 186 (40 + 14 * p + 1) else if b = 3 then Ir 186 (40 + 14 * p + 2) else Ir 186 (40 + 14 * p + 3) := fun s0 hq => by
        unfold f275_185_j41 at hq
        rw [f260_is (x := 1) (w := 1) (by omega) rfl (by omega), f260_is (x := 2) (w := 2) (by omega) rfl (by omega), f260_is (x := 3) (w := 3) (by omega) rfl (by omega)] at hq
        unfold f207_185 f206_185 f205_185 at hq
        dsimp only at hq
        obtain ⟨n, hn, rfl⟩ := nat_i hb.1
        rw [oi_int hn] at hb
        rcases (by omega : n = 0 ∨ n = 1 ∨ n = 2 ∨ n = 3 ∨ n = 4) with rfl | rfl | rfl | rfl | rfl
        · rw [show xcmp .ge (Int32.ofNat 0) 2 = false from rfl, cond_false] at hq
          rw [if_pos (show Int32.ofNat 0 = 0 ∨ Int32.ofNat 0 = 1 by decide)]
          by_cases z : s0 = -1
          · rw [xc_nen z, cond_false] at hq
            rw [if_pos z]
            cases hq
            rfl
          · rw [xc_ne z, cond_true, show xcmp .ne (Int32.ofNat 0) 0 = false from rfl, cond_false] at hq
            rw [if_neg z]
            cases hq
            rfl
        · rw [show xcmp .ge (Int32.ofNat 1) 2 = false from rfl, cond_false] at hq
          rw [if_pos (show Int32.ofNat 1 = 0 ∨ Int32.ofNat 1 = 1 by decide)]
          by_cases z : s0 = -1
          · rw [xc_nen z, cond_false] at hq
            rw [if_pos z]
            cases hq
            rfl
          · rw [xc_ne z, cond_true, show xcmp .ne (Int32.ofNat 1) 0 = true from rfl, cond_true] at hq
            rw [if_neg z]
            cases hq
            rfl
        · rw [show xcmp .ge (Int32.ofNat 2) 2 = true from rfl, cond_true, show xcmp .ne (Int32.ofNat 2) 3 = true from rfl, cond_true, show xcmp .ne (Int32.ofNat 2) 2 = false from rfl, cond_false] at hq
          cases hq
          rfl
        · rw [show xcmp .ge (Int32.ofNat 3) 2 = true from rfl, cond_true, show xcmp .ne (Int32.ofNat 3) 3 = false from rfl, cond_false] at hq
          rw [if_neg (by decide), if_neg (by decide), if_pos (show Int32.ofNat 3 = 3 by decide)]
          rcases bsp hq with ⟨-, hq⟩ | ⟨t, hq⟩
          · cases hq
            rfl
          · cases hq
            by_cases z : Ir 186 (40 + 14 * p + 2) = -1
            · exact z.symm
            · rw [xc_ne z] at t
              cases t
        · rw [show xcmp .ge (Int32.ofNat 4) 2 = true from rfl, cond_true, show xcmp .ne (Int32.ofNat 4) 3 = true from rfl, cond_true, show xcmp .ne (Int32.ofNat 4) 2 = true from rfl, cond_true] at hq
          cases hq
          rfl
      obtain ⟨n, hn, rfl⟩ := nat_i hb.1
      rw [oi_int hn] at hb
      have n5 : n = 0 ∨ n = 1 ∨ n = 2 ∨ n = 3 ∨ n = 4 := by omega
      have wr : w = if Int32.ofNat n = 0 ∨ Int32.ofNat n = 1 then (if Ic 19 p = 1 then (if Int32.ofNat n = 0 then Int32.ofNat c5 else Int32.ofNat r2) else -1) else if Int32.ofNat n = 2 then Ir 186 (40 + 14 * p + 1) else if Int32.ofNat n = 3 then Ir 186 (40 + 14 * p + 2) else Ir 186 (40 + 14 * p + 3) := by
        by_cases st : Ic 19 p = 1
        · rw [if_pos (f5.mp st), q10, cond_false, f260_is (x := 5) (w := 5) (by omega) rfl (by omega)] at hr
          have := rr _ hr
          rw [q4, if_neg (oi_m1 (by omega))] at this
          dsimp only at this
          rw [t4, t3] at this
          rw [if_pos st]
          exact this
        · rw [if_neg (fun z => st (f5.mpr z)), q00, cond_true] at hr
          have := rr _ hr
          rw [if_pos rfl] at this
          rw [if_neg st]
          exact this
      rw [wr]
      clear hr wr rr
      rcases n5 with rfl | rfl | rfl | rfl | rfl
      · rw [show xcmp .eq (Int32.ofNat 0) 0 = true from rfl, cond_true] at hc
        rw [if_pos (show Int32.ofNat 0 = 0 ∨ Int32.ofNat 0 = 1 by decide)]
        by_cases st : Ic 19 p = 1
        · rw [if_pos st, q3, xc_ne (oi_m1 (by omega)), cond_true, t2] at hc
          dsimp only at hc
          rw [xc_ne (oi_m1 (by omega)), cond_true] at hc
          rw [if_pos st, if_pos (show Int32.ofNat 0 = 0 by decide)]
          cases hc
          rfl
        · rw [if_neg st, show xcmp .ne (-1 : Int32) (-1) = false from rfl, cond_false] at hc
          rw [if_neg st]
          cases hc
          rfl
      · rw [show xcmp .eq (Int32.ofNat 1) 0 = false from rfl, cond_false, show xcmp .eq (Int32.ofNat 1) 1 = true from rfl, cond_true] at hc
        rw [if_pos (show Int32.ofNat 1 = 0 ∨ Int32.ofNat 1 = 1 by decide)]
        by_cases st : Ic 19 p = 1
        · rw [if_pos st, q3, xc_ne (oi_m1 (by omega)), cond_true, t1] at hc
          dsimp only at hc
          rw [xc_ne (oi_m1 (by omega)), cond_true] at hc
          rw [if_pos st, if_neg (by decide)]
          cases hc
          rfl
        · rw [if_neg st, show xcmp .ne (-1 : Int32) (-1) = false from rfl, cond_false] at hc
          rw [if_neg st]
          cases hc
          rfl
      · rw [show xcmp .eq (Int32.ofNat 2) 0 = false from rfl, cond_false, show xcmp .eq (Int32.ofNat 2) 1 = false from rfl, cond_false, show xcmp .eq (Int32.ofNat 2) 2 = true from rfl, cond_true] at hc
        rw [if_neg (by decide), if_pos (show Int32.ofNat 2 = 2 by decide), ← c1]
        cases hc
        rfl
      · rw [show xcmp .eq (Int32.ofNat 3) 0 = false from rfl, cond_false, show xcmp .eq (Int32.ofNat 3) 1 = false from rfl, cond_false, show xcmp .eq (Int32.ofNat 3) 2 = false from rfl, cond_false, show xcmp .eq (Int32.ofNat 3) 3 = true from rfl, cond_true] at hc
        rw [if_neg (by decide), if_neg (by decide), if_pos (show Int32.ofNat 3 = 3 by decide), ← c2]
        dsimp only at hc
        by_cases z : Ic 16 p = -1
        · rw [xc_nen z, cond_false] at hc
          cases hc
          exact z.symm
        · rw [xc_ne z, cond_true] at hc
          cases hc
          rfl
      · rw [show xcmp .eq (Int32.ofNat 4) 0 = false from rfl, cond_false, show xcmp .eq (Int32.ofNat 4) 1 = false from rfl, cond_false, show xcmp .eq (Int32.ofNat 4) 2 = false from rfl, cond_false, show xcmp .eq (Int32.ofNat 4) 3 = false from rfl, cond_false] at hc
        rw [if_neg (by decide), if_neg (by decide), if_neg (by decide), c4, ← c3]
        cases hc
        rfl
    · rw [if_neg hb, n00, cond_false] at hc
      unfold f122_0 at hc
      unfold f205_185 at hr
      cases hc
      rcases bsp hr with ⟨-, hr⟩ | ⟨t, hr⟩
      · cases hr
        rfl
      · rcases bsp hr with ⟨t2, -⟩ | ⟨-, hr⟩
        · exact absurd ⟨by have := of_decide_eq_false t; omega, of_decide_eq_true t2⟩ hb
        · cases hr
          rfl
  · rw [if_neg ha, q00, cond_true] at hc hr
    unfold f122_0 at hc
    unfold f205_185 at hr
    cases hc
    cases hr
    rfl
theorem iss_c {a : Int32} (h : I 21 0 = Int32.ofNat S) (hS : S ≤ 6) : f129_0 I J a = (if 0 ≤ a.toInt ∧ a.toInt < S then 1 else 0, I, J) := by
  unfold f129_0
  rw [f127_is, h, oi_sub1 (by omega), show (0 : Int32).toInt = 0 from rfl]
  dsimp only
  by_cases c : 0 ≤ a.toInt ∧ a.toInt < S
  · rw [if_pos c, if_pos (by omega)]
  · rw [if_neg c, if_neg (by omega)]
theorem iss_r {a : Int32} (h : I 186 3 = Int32.ofNat S) (hS : S ≤ 6) : f255_185 I J a = (if 0 ≤ a.toInt ∧ a.toInt < S then 1 else 0, I, J) := by
  unfold f255_185
  rw [h, tc_lt, tc_ge, oi_int (by omega), show (0 : Int32).toInt = 0 from rfl]
  by_cases c : a.toInt < 0
  · rw [decide_eq_true c, cond_true, if_neg (by omega)]
  · rw [decide_eq_false c, cond_false]
    by_cases d : (S : Int) ≤ a.toInt
    · rw [decide_eq_true d, cond_true, if_neg (by omega)]
    · rw [decide_eq_false d, cond_false, if_pos (by omega)]
theorem sightat_rel {a b : Int32} (h : WQ 10 0 0 Ic Jc Ir Jr) (hc : f152_0 Ic Jc a b = (v, I1, J1)) (hr : f277_185 Ir Jr a b = (w, I2, J2)) : v = w := by
  obtain ⟨P, S, B, W, D, s, ⟨⟨⟨g1, g2, g3⟩, -, g6⟩, ⟨-, -, -, a4, a5, a6⟩, ⟨-, -, -, b4, b5, b6⟩, b7, b8⟩, -, -, hS, -⟩ := h
  unfold f152_0 at hc
  unfold f277_185 at hr
  rw [iss_c a5 g2] at hc
  rw [iss_r b4 g2] at hr
  dsimp only at hc hr
  by_cases ha : 0 ≤ a.toInt ∧ a.toInt < S
  · rw [if_pos ha, q10, cond_false, f127_is, show (0 : Int32).toInt = 0 from rfl, show (2 : Int32).toInt = 2 from rfl] at hc
    rw [if_pos ha, q10, cond_false, tc_lt, tc_le, show (0 : Int32).toInt = 0 from rfl, show (2 : Int32).toInt = 2 from rfl] at hr
    dsimp only at hc
    by_cases hb : 0 ≤ b.toInt ∧ b.toInt ≤ 2
    · rw [if_pos hb, n10, cond_true] at hc
      rw [decide_eq_false (by omega), cond_false, decide_eq_true hb.2, cond_true] at hr
      obtain ⟨i, hin, rfl⟩ := nat_i ha.1
      rw [oi_int hin] at ha
      obtain ⟨e0, e1⟩ := hS i (by omega)
      have e0 : Ic 23 i = Ir 186 (110 + 3 * i) := by rw [show 110 + 3 * i = 0 + 110 + 3 * i by omega]; exact e0
      rw [show 0 + 110 + 3 * i = 110 + 3 * i by omega] at e1
      have e1 : (Ic 23 i = 2 ∧ Ic 24 i = -1 ∧ Ic 25 i = -1) ∨ (Ic 23 i = 0 ∧ Ic 24 i = Ir 186 (110 + 3 * i + 1) ∧ (∃ a, a < P ∧ Ic 24 i = Int32.ofNat a) ∧ RCl (Ic 25 i) (Ir 186 (110 + 3 * i + 2))) ∨ (Ic 23 i = 1 ∧ Ic 24 i = Ir 186 (110 + 3 * i + 1) ∧ Ic 25 i = Ir 186 (110 + 3 * i + 2) ∧ (∃ a, a < P ∧ Ic 24 i = Int32.ofNat a) ∧ ∃ a, a < P ∧ Ic 25 i = Int32.ofNat a) := e1
      unfold f252 f263 at hr
      dsimp only at hr
      rw [show (110 : Int32) + 3 * Int32.ofNat i = Int32.ofNat (110 + 3 * i) by
        rw [show (3 : Int32) * Int32.ofNat i = Int32.ofNat (3 * i) from oi_mul (a := 3)]
        exact oi_add (a := 110), oi_nat (p := 110 + 3 * i) (by omega)] at hr
      rw [oi_nat (p := i) (by omega)] at hc
      have pk : ∀ k : Nat, k < 10 → (Int32.ofNat (110 + 3 * i) + Int32.ofNat k).toNatClampNeg = 110 + 3 * i + k := fun k hk => by rw [oi_add, oi_nat (by omega)]
      have p2 : (Int32.ofNat (110 + 3 * i) + 2).toNatClampNeg = 110 + 3 * i + 2 := pk 2 (by omega)
      obtain ⟨n, hn, rfl⟩ := nat_i hb.1
      rw [oi_int hn] at hb
      rw [p2, pk n (by omega)] at hr
      unfold f125_0 f121_0 f122_0 at hc
      unfold f206_185 f205_185 at hr
      dsimp only at hc hr
      rcases (by omega : n = 0 ∨ n = 1 ∨ n = 2) with rfl | rfl | rfl
      · rw [show xcmp .ne (Int32.ofNat 0) 0 = false from rfl, cond_false] at hc hr
        cases hc
        cases hr
        exact e0
      · rw [show xcmp .ne (Int32.ofNat 1) 0 = true from rfl, cond_true, show xcmp .ne (Int32.ofNat 1) 1 = false from rfl, cond_false] at hc
        rw [show xcmp .ne (Int32.ofNat 1) 0 = true from rfl, cond_true, ← e0, show xcmp .ne (Int32.ofNat 1) 2 = true from rfl, cond_true] at hr
        rcases e1 with ⟨k2, k3, k4⟩ | ⟨k2, k3, ⟨z, hz, k4⟩, k5⟩ | ⟨k2, k3, k5, ⟨z, hz, k4⟩, -⟩
        · rw [k3, show xcmp .ne (-1 : Int32) (-1) = false from rfl, cond_false] at hc
          rw [k2, show xcmp .ne (2 : Int32) 2 = false from rfl, cond_false] at hr
          cases hc
          cases hr
          rfl
        · rw [k4, xc_ne (oi_m1 (by omega)), cond_true] at hc
          rw [k2, show xcmp .ne (0 : Int32) 2 = true from rfl, cond_true] at hr
          cases hc
          cases hr
          exact k4.symm.trans k3
        · rw [k4, xc_ne (oi_m1 (by omega)), cond_true] at hc
          rw [k2, show xcmp .ne (1 : Int32) 2 = true from rfl, cond_true] at hr
          cases hc
          cases hr
          exact k4.symm.trans k3
      · rw [show xcmp .ne (Int32.ofNat 2) 0 = true from rfl, cond_true, show xcmp .ne (Int32.ofNat 2) 1 = true from rfl, cond_true] at hc
        rw [show xcmp .ne (Int32.ofNat 2) 0 = true from rfl, cond_true, ← e0, show xcmp .ne (Int32.ofNat 2) 2 = false from rfl, cond_false] at hr
        rcases e1 with ⟨k2, k3, k4⟩ | ⟨k2, k3, ⟨z, hz, k4⟩, r, c, hr5, hc6, y1, y2⟩ | ⟨k2, k3, k5, -, z, hz, k4⟩
        · rw [k4, show xcmp .ne (-1 : Int32) (-1) = false from rfl, cond_false] at hc
          rw [k2, show xcmp .ne (2 : Int32) 2 = false from rfl, cond_false] at hr
          cases hc
          cases hr
          rfl
        · obtain ⟨t3, t4⟩ := d6_at hr5 hc6
          rw [y1, xc_ne (oi_m1 (by omega)), cond_true] at hc
          rw [k2, show xcmp .ne (0 : Int32) 2 = true from rfl, cond_true, show xcmp .ne (0 : Int32) 0 = false from rfl, cond_false, y2, t4, t3, cel_c] at hr
          cases hc
          cases hr
          rfl
        · rw [k4, xc_ne (oi_m1 (by omega)), cond_true] at hc
          rw [k2, show xcmp .ne (1 : Int32) 2 = true from rfl, cond_true, show xcmp .ne (1 : Int32) 0 = true from rfl, cond_true] at hr
          cases hc
          cases hr
          exact k4.symm.trans k5
    · rw [if_neg hb, n00, cond_false] at hc
      unfold f122_0 at hc
      unfold f205_185 at hr
      cases hc
      rcases bsp hr with ⟨-, hr⟩ | ⟨t, hr⟩
      · cases hr
        rfl
      · rcases bsp hr with ⟨t2, -⟩ | ⟨-, hr⟩
        · exact absurd ⟨by have := of_decide_eq_false t; omega, of_decide_eq_true t2⟩ hb
        · cases hr
          rfl
  · rw [if_neg ha, q00, cond_true] at hc hr
    unfold f122_0 at hc
    unfold f205_185 at hr
    cases hc
    cases hr
    rfl
/-- how many prints are whose -/
theorem prn_run {x : Int32} (hx : x ≠ -1) (ho : WKo 10 0 Ic Ir) : ∀ (k k' p : Nat) (m : Int32) {Y : Int32 × Int32 × Int32 × tI × tJ} {Y' : Int32 × Int32 × Int32 × tI × tJ}, p ≤ 120 → f113_10_l4 N k Ic Jc x m (Int32.ofNat (p + 1)) = some Y → f269_185_l4 N' k' Ir Jr x m (Int32.ofNat p) = some Y' → Y.2.1 = Y'.2.1
  | 0, _, _, _, _, _, _, h, _ => by cases h
  | _ + 1, 0, _, _, _, _, _, _, h => by cases h
  | k + 1, k' + 1, p, m, Y, Y', hp, hc, hr => by
    simp only [f113_10_l4] at hc
    simp only [f269_185_l4] at hr
    rw [tc_gt, oi_int (by omega), show (120 : Int32).toInt = 120 from rfl] at hc
    rw [tc_ge, oi_int (by omega), show (120 : Int32).toInt = 120 from rfl] at hr
    by_cases e : p = 120
    · rw [decide_eq_true (by omega), cond_true] at hc hr
      cases hc
      cases hr
      rfl
    · rw [decide_eq_false (by omega), cond_false, oi_nat (by omega), oi_suc (by omega)] at hc
      rw [decide_eq_false (by omega), cond_false, xc_ne hx, cond_true, show (132 : Int32) + Int32.ofNat p = Int32.ofNat (132 + p) from oi_add (a := 132), oi_nat (by omega), oi_suc (by omega)] at hr
      have := ho p (by omega)
      rw [show 0 + 132 + p = 132 + p by omega] at this
      rw [← this, show (10 + 23 : Nat) = 33 from rfl] at hr
      rcases bsp hc with ⟨t, hc⟩ | ⟨t, hc⟩
      · rw [t, cond_true, Int32.add_zero] at hr
        exact prn_run hx ho k k' (p + 1) m (by omega) hc hr
      · rw [t, cond_false] at hr
        exact prn_run hx ho k k' (p + 1) (m + 1) (by omega) hc hr
theorem prints_rel {a : Int32} (h : WQ 10 0 0 Ic Jc Ir Jr) (hc : f155_0 N Ic Jc a = some (v, I1, J1)) (hr : f281_185 N' Ir Jr a = some (w, I2, J2)) : v = w := by
  obtain ⟨P, S, B, W, D, s, ⟨⟨⟨g1, g2, g3⟩, -, gs⟩, ⟨-, -, -, a4, -, a6⟩, ⟨-, -, -, -, b5, b6⟩, b7, b8⟩, -, -, -, hb, ho, -⟩ := h
  unfold f155_0 at hc
  unfold f281_185 at hr
  rw [isb_c a6 g3] at hc
  rw [isb_r b5 g3] at hr
  dsimp only at hc hr
  by_cases ha : 0 ≤ a.toInt ∧ a.toInt < B
  · rw [if_pos ha, q10, cond_false] at hc hr
    have hne : a ≠ -1 := fun z => by
      rw [z] at ha
      exact absurd ha.1 (by decide)
    replace hc := obI hc
    obtain ⟨v1, Ia, Ja, e1, hc⟩ := hc
    replace hr := obI hr
    obtain ⟨v2, Ib, Jb, e2, hr⟩ := hr
    unfold f113_10 at e1
    unfold f269_185 at e2
    cases e3 : f113_10_l4 N N Ic Jc a 0 1 with
    | none => rw [e3] at e1; cases e1
    | some Y =>
    cases e4 : f269_185_l4 N' N' Ir Jr a 0 0 with
    | none => rw [e4] at e2; cases e2
    | some Y' =>
    have := prn_run hne ho N N' 0 0 (by omega) e3 e4
    obtain ⟨y1, y2, y3, y4, y5⟩ := Y
    obtain ⟨z1, z2, z3, z4, z5⟩ := Y'
    rw [e3] at e1
    rw [e4] at e2
    dsimp only at e1 e2 this
    cases e1
    cases e2
    unfold f121_0 at hc
    unfold f206_185 at hr
    cases hc
    cases hr
    exact this
  · rw [if_neg ha, q00, cond_true] at hc hr
    unfold f122_0 at hc
    unfold f205_185 at hr
    cases hc
    cases hr
    rfl
end DYS
