/-! SIGHTS, in step -/
section PH
variable {t : Nat → Int32} {n N N' P S B W D : Nat} {Ic Ir I1 I2 : tI} {Jc Jr J1 J2 : tJ} {v w : Int32} {b : Int}
/-- a person that is told: the class keeps which, and passes him later -/
theorem known_c (h : R0 t n b Ic Jc Ir) (hP : P ≤ 5) (hn : ∀ p, p < P → RN (Jc 39 p) (Jr 187 (60 + p))) (hc : f39_8_39 N Ic Jc (Int32.ofNat P) = some (v, I1, J1)) : (v = 0 ∧ RF t I1 (f225_185 Ir Jr 2).2.1 ∧ ∀ N q, f230_185_1002 N Ir Jr = some q → q = (0, Ir, Jr)) ∨ ((∀ N q, f230_185_1002 N Ir Jr = some q → q = (1, Ir, Jr)) ∧ ∃ ix, (∀ N q, f232_185 N Ir Jr 60 (Int32.ofNat P) = some q → q = (ix, Ir, Jr)) ∧ ((ix = -1 ∧ v = 0 ∧ (∀ x y : Int32, x ≠ 186 → True) ∧ ∀ to : Nat, 2480 ≤ to → RF t I1 (f225_185 (tup Ir 186 to ix) Jr 3).2.1) ∨ ∃ a, a < P ∧ ix = Int32.ofNat a ∧ v = 1 ∧ I1 = tup Ic 8 8 ix ∧ J1 = Jc)) := by
  unfold f39_8_39 at hc
  obtain ⟨⟨y1, Ia, Ja⟩, a1⟩ := exq (f38_8 Ic Jc)
  rw [a1] at hc
  dsimp only at hc
  rcases nm_c (Jr := Jr) h a1 with ⟨rfl, hF, g⟩ | ⟨rfl, rfl, rfl, ⟨wd, hwd, n5', n8'⟩, g⟩
  · rw [n00, cond_false] at hc
    cases hc
    exact Or.inl ⟨rfl, hF, g⟩
  · rw [n10, cond_true] at hc
    replace hc := obI hc
    obtain ⟨y2, Ib, Jb, a2, hc⟩ := hc
    have e := f40_39_is hP a2
    cases e
    have hx : RN (Ja 8 6) (e8 wd 0) := ⟨wd, hwd, n5', rfl⟩
    rw [fd_rel (o := 39) hn hx] at hc
    refine Or.inr ⟨g, fdN (fun p => decide (Jr 187 (60 + p) = e8 wd 0)) P 0, fun N q hq => f232_is (b := 60) (by omega) n8' hq, ?_⟩
    rcases fdN_or (P := fun p => decide (Jr 187 (60 + p) = e8 wd 0)) P 0 with ⟨k1, -⟩ | ⟨i, -, k2, k3, -⟩
    · rw [k1, show xcmp .ne (-1 : Int32) (-1) = false from rfl, cond_false, f33_is] at hc
      dsimp only at hc
      rw [q00, cond_true] at hc
      cases hc
      refine Or.inl ⟨k1, rfl, fun _ _ _ => trivial, fun to hto => ?_⟩
      rw [k1]
      have r1 : R0 t n b (tup Ia 8 8 (-1)) J1 (tup Ir 186 to (-1)) := R0_cg h (fun k _ => tup_ne (by omega)) (fun o k ho => tup_ne (by omega)) rfl (fun k _ _ => tup_ne (by omega)) (fun o k ho => tup_ne (by omega))
      rw [f225_is r1.2.1]
      exact RF_of r1 (by decide)
    · rw [k3, xc_ne (oi_m1 (by omega)), cond_true] at hc
      cases hc
      exact Or.inr ⟨i, by omega, k3, rfl, by rw [k3], rfl⟩
theorem known_rel {to : Nat} (hto : 2480 ≤ to ∧ to < 3972) (h : R0 t n b Ic Jc Ir) (hP : P ≤ 5) (e2 : Ir 186 2482 = Int32.ofNat P) (hn : ∀ p, p < P → RN (Jc 39 p) (Jr 187 (60 + p))) (hc : f39_8_39 N Ic Jc (Int32.ofNat P) = some (v, I1, J1)) (hr : f237_185 N' Ir Jr (Int32.ofNat to) = some (w, I2, J2)) : OUT t v w I1 I2 (∃ a, a < P ∧ I1 = tup Ic 8 8 (Int32.ofNat a) ∧ J1 = Jc ∧ f222_185 N' (tup Ir 186 to (Int32.ofNat a)) Jr = some ((), I2, J2)) := by
  unfold f237_185 at hr
  replace hr := obI hr
  obtain ⟨y1, Ia, Ja, b1, hr⟩ := hr
  rcases known_c (Jr := Jr) h hP hn hc with ⟨rfl, hF, g⟩ | ⟨g, ix, gi, g2⟩
  · have e := g _ _ b1
    cases e
    rw [n00, cond_false] at hr
    rw [f225_is h.2.1] at hr hF
    dsimp only at hr
    cases hr
    exact Or.inl ⟨rfl, rfl, hF⟩
  · have e := g _ _ b1
    cases e
    rw [n10, cond_true] at hr
    replace hr := obI hr
    obtain ⟨y2, Ib, Jb, b2, hr⟩ := hr
    rw [e2] at b2
    have e := gi _ _ b2
    cases e
    rw [oi_nat (by omega), tup_eq] at hr
    rcases g2 with ⟨rfl, rfl, -, hF⟩ | ⟨a, ha, rfl, rfl, rfl, rfl⟩
    · rw [show xcmp .ne (-1 : Int32) (-1) = false from rfl, cond_false] at hr
      have hF := hF to hto.1
      have r2 : (tup Ir 186 to (-1)) 185 18 = 0 := by rw [tup_ne (by omega)]; exact h.2.1
      rw [f225_is r2] at hr hF
      dsimp only at hr
      cases hr
      exact Or.inl ⟨rfl, rfl, hF⟩
    · rw [xc_ne (oi_m1 (by omega)), cond_true] at hr
      replace hr := obU hr
      obtain ⟨u, Id, Jd, b3, hr⟩ := hr
      cases hr
      exact Or.inr ⟨rfl, rfl, a, ha, rfl, rfl, b3⟩
theorem sight_rel (h : R0 t n b Ic Jc Ir) (hW : 0 < W) (hD : RD P S B W D Ic Jc Ir Jr) (hc : f87_35 N Ic Jc = some (v, I1, J1)) (hr : f243_185_j71 N' Ir Jr 9 = some (w, I2, J2)) : PO t n b v w I1 J1 I2 J2 := by
  obtain ⟨⟨g1, g2⟩, ⟨g3, g4, g5⟩, ⟨g6, g7⟩, ⟨g8, g9⟩, g10⟩ := id hD
  have gc := g1.1
  unfold f87_35 at hc
  rw [f76_is g3.1.1 g3.2.1.1, if_pos hW] at hc
  dsimp only at hc
  rw [n10, cond_true, g1.2.1.2.1, show xcmp .lt (Int32.ofNat S) 6 = decide (S < 6) from oi_lt (q := 6) (by omega) (by omega)] at hc
  unfold f243_185_j71 at hr
  rw [show xcmp .eq (9 : Int32) 5 = false from rfl, cond_false, show xcmp .eq (9 : Int32) 6 = false from rfl, cond_false, show xcmp .eq (9 : Int32) 7 = false from rfl, cond_false, show xcmp .eq (9 : Int32) 8 = false from rfl, cond_false, show xcmp .eq (9 : Int32) 9 = true from rfl, cond_true] at hr
  replace hr := obI hr
  obtain ⟨y0, Iz, Jz, b0, hr⟩ := hr
  generalize hI : tup Ir 185 20 (Ir 185 20 ||| ((1 : Int32) <<< ((9 : Int32) &&& 31))) = Is at b0
  have hs : R0 t n b Ic Jc Is := by
    rw [← hI]
    exact R0_cg h (fun _ _ => rfl) (fun _ _ _ => rfl) rfl (fun k _ _ => tup_ne (by omega)) (fun o k ho => tup_ne (by omega))
  have hD1 : RD P S B W D Ic Jc Is Jr := by
    rw [← hI]
    refine ⟨⟨g1, g2⟩, ⟨g3, ⟨?_, ?_⟩, g5⟩, ⟨g6, g7⟩, ⟨g8, g9⟩, g10⟩
    · rw [tup_eq, show (9 : Int32) = Int32.ofNat 9 from rfl, tb_or (by omega), decide_eq_false (by omega), Bool.or_false]; exact g4.1
    · rw [tup_eq, show (9 : Int32) = Int32.ofNat 9 from rfl, tb_or (by omega), decide_eq_false (by omega), Bool.or_false]; exact g4.2
  clear g1 g2 g3 g4 g5 g6 g7 g8 g9 g10
  obtain ⟨⟨g1, g2⟩, ⟨g3, g4, g5⟩, ⟨g6, g7⟩, ⟨g8, g9⟩, g10⟩ := id hD1
  have e3 : Is 186 2483 = Int32.ofNat S := g1.2.2.2.1
  have eq0 : (2590 : Int32) + 3 * Int32.ofNat S = Int32.ofNat (2590 + 3 * S) := by
    rw [show (3 : Int32) * Int32.ofNat S = Int32.ofNat (3 * S) from oi_mul]
    exact oi_add
  generalize hq : 2590 + 3 * S = q at eq0
  unfold f241_185 at b0
  rw [e3, eq0] at b0
  replace b0 := obI b0
  obtain ⟨y1, Ib, Jb, b1, b0⟩ := b0
  by_cases h6 : S < 6
  · rw [decide_eq_true h6, cond_true] at hc
    replace hc := obU hc
    obtain ⟨u1, Ia, Ja, a1, hc⟩ := hc
    replace hc := obI hc
    obtain ⟨y2, Id, Jd, a2, hc⟩ := hc
    rcases new_rel (a0 := 3) (a1 := 6) (a2 := 5) (m := S) (ka := 2483) (kn := 65 + S) (by decide) (by omega) e3 (fun q => by
        have := oi_inj (b := 6) (by omega) (by omega) q
        omega) (by rw [show (60 : Int32) + 5 = Int32.ofNat 65 by decide]; exact ox (by omega)) hs hD1 a1 a2 b1 with ⟨rfl, rfl, hF⟩ | ⟨rfl, rfl, rfl, rfl, c1, j1, Ig, x, r1, k1, hx, b2⟩
    · rw [n00, cond_false] at hc b0
      cases hc
      cases b0
      rw [j278_0] at hr
      cases hr
      exact Or.inl ⟨rfl, rfl, hF⟩
    rw [n10, cond_true] at hc b0
    have eS : Id 47 0 = Int32.ofNat S := by rw [c1 _ _ (by omega)]; exact g1.2.1.2.1
    replace hc := obU hc
    obtain ⟨u3, Ie, Je, a3, hc⟩ := hc
    rw [eS, oi_nat (by omega)] at a3 hc
    rw [oi_nat (by omega)] at b0
    have r2 : R0 t n b Id (tup Jd 48 S (Jd 8 6)) Ig := R0_cg r1 (fun _ _ => rfl) (fun _ _ _ => rfl) (tup_ne (by omega)) (fun _ _ _ => rfl) (fun _ _ _ => rfl)
    obtain ⟨r3, c3, j3, k3, rfl⟩ := R0_adv r2 a3 b2
    have cC : ∀ o k, 35 ≤ o → o ≤ 59 → Ie o k = Ic o k := fun o k q1 q2 => by rw [c3 o k (by omega), c1 o k (by omega)]
    have cJ : ∀ o k, 35 ≤ o → o ≤ 59 → ¬ (o = 48 ∧ k = S) → Je o k = Jc o k := fun o k q1 q2 q3 => by rw [j3 o k (by omega), tup_ne q3, j1 o k (by omega)]
    have vJ : RN (Je 48 S) x := by
      rw [j3 _ _ (by omega), tup_eq]
      exact hx
    have cR : ∀ k, 2480 ≤ k → k < 3092 → Ib 186 k = Is 186 k := fun k q1 q2 => by rw [k3 _ k (by omega), k1 _ k (by omega)]
    have cT : Ib 185 20 = Is 185 20 := by rw [k3 _ _ (by omega), k1 _ _ (by omega)]
    have nn1 : ∀ p, p < P → RN (Je 39 p) ((tup Jr 187 (65 + S) x) 187 (60 + p)) := fun p hp => by
      rw [cJ _ _ (by omega) (by omega) (by omega), tup_ne (by omega)]
      exact g2.1 p hp
    -- what stands behind all ways: the sight itself is told, the class's and the reference's alike
    have fin : ∀ {Ik Il : tI} {Jk : tJ}, R0 t n b Ik Jk Il → (∀ o k, 35 ≤ o → o ≤ 59 → ¬ ((o = 49 ∨ o = 50 ∨ o = 51) ∧ k = S) → ¬ (o = 35 ∧ k = 3) → Ik o k = Ic o k) → (∀ o k, 35 ≤ o → o ≤ 59 → ¬ (o = 48 ∧ k = S) → Jk o k = Jc o k) → RN (Jk 48 S) x → (∀ k, 2480 ≤ k → k < 3092 → ¬ (q ≤ k ∧ k < q + 3) → Il 186 k = Is 186 k) → Il 185 20 = Is 185 20 → (Ik 49 S = Il 186 q ∧ ((Ik 49 S = 2 ∧ Ik 50 S = -1 ∧ Ik 51 S = -1) ∨ (Ik 49 S = 0 ∧ Ik 50 S = Il 186 (q + 1) ∧ (∃ a, a < P ∧ Ik 50 S = Int32.ofNat a) ∧ RCl (Ik 51 S) (Il 186 (q + 2))) ∨ (Ik 49 S = 1 ∧ Ik 50 S = Il 186 (q + 1) ∧ Ik 51 S = Il 186 (q + 2) ∧ (∃ a, a < P ∧ Ik 50 S = Int32.ofNat a) ∧ ∃ b, b < P ∧ Ik 51 S = Int32.ofNat b))) → f87_35_j149 N Ik Jk = some (v, I1, J1) → f241_185_j176 N' Il (tup Jr 187 (65 + S) x) = some (y0, Iz, Jz) → PO t n b v w I1 J1 I2 J2 := fun {Ik Il Jk} rr hC0 hJ0 hxx hR0' hT0 hse hc' hr' => by
      unfold f87_35_j149 at hc'
      unfold f241_185_j176 at hr'
      replace hc' := obI hc'
      obtain ⟨y7, Im, Jm, a7, hc'⟩ := hc'
      cases hc'
      cases hr'
      have eB2 : Ik 47 0 + 1 = Int32.ofNat (S + 1) := by rw [hC0 _ _ (by omega) (by omega) (by omega) (by omega), g1.2.1.2.1, oi_suc (by omega)]
      have eB3 : Il 186 2483 + 1 = Int32.ofNat (S + 1) := by rw [hR0' _ (by omega) (by omega) (by omega), e3, oi_suc (by omega)]
      rw [eB2] at a7
      rw [eB3] at hr
      have r5 : R0 t n b (tup Ik 47 0 (Int32.ofNat (S + 1))) Jk (tup Il 186 2483 (Int32.ofNat (S + 1))) := R0_cg rr (fun k _ => tup_ne (by omega)) (fun o k ho => tup_ne (by omega)) rfl (fun k _ _ => tup_ne (by omega)) (fun o k ho => tup_ne (by omega))
      rcases close_rel r5 a7 hr with ⟨rfl, rfl, hF⟩ | ⟨rfl, rfl, r6, c6, j6, k6, rfl⟩
      · exact Or.inl ⟨rfl, rfl, hF⟩
      refine Or.inr ⟨rfl, rfl, r6, P, S + 1, B, W, D, ?_⟩
      have hC : ∀ o k, 35 ≤ o → o ≤ 59 → ¬ (((o = 49 ∨ o = 50 ∨ o = 51) ∧ k = S) ∨ (o = 35 ∧ k = 3) ∨ (o = 47 ∧ k = 0)) → I1 o k = Ic o k := fun o k q1 q2 q3 => by
        rw [c6 o k (by omega), tup_ne (by omega), hC0 o k q1 q2 (by omega) (by omega)]
      have hJ : ∀ o k, 35 ≤ o → o ≤ 59 → ¬ (o = 48 ∧ k = S) → J1 o k = Jc o k := fun o k q1 q2 q3 => by
        rw [j6 o k (by omega), hJ0 o k q1 q2 q3]
      have hR : ∀ k, 2480 ≤ k → k < 3092 → ¬ ((q ≤ k ∧ k < q + 3) ∨ k = 2483) → I2 186 k = Is 186 k := fun k q1 q2 q3 => by
        rw [k6 _ k (by omega), tup_ne (by omega), hR0' k q1 q2 (by omega)]
      have hT : I2 185 20 = Is 185 20 := by
        rw [k6 _ _ (by omega), tup_ne (by omega), hT0]
      have hN : ∀ k, ¬ (k = 65 + S) → (tup Jr 187 (65 + S) x) 187 k = Jr 187 k := fun k q => tup_ne (by omega)
      have v0 : I1 47 0 = Int32.ofNat (S + 1) := by rw [c6 _ _ (by omega), tup_eq]
      have v1 : I2 186 2483 = Int32.ofNat (S + 1) := by rw [k6 _ _ (by omega), tup_eq]
      have lv : ∀ o, 49 ≤ o → o ≤ 51 → I1 o S = Ik o S := fun o q1 q2 => by rw [c6 o S (by omega), tup_ne (by omega)]
      have lr : ∀ k, q ≤ k → k < q + 3 → I2 186 k = Il 186 k := fun k q1 q2 => by rw [k6 _ k (by omega), tup_ne (by omega)]
      have v3 : J1 48 S = Jk 48 S := j6 _ _ (by omega)
      exact ⟨⟨⟨⟨gc.1, by omega, gc.2.2⟩, ⟨by rw [hC _ _ (by omega) (by omega) (by omega)]; exact g1.2.1.1, v0, by rw [hC _ _ (by omega) (by omega) (by omega)]; exact g1.2.1.2.2⟩, by rw [hR _ (by omega) (by omega) (by omega)]; exact g1.2.2.1, v1, by rw [hR _ (by omega) (by omega) (by omega)]; exact g1.2.2.2.2⟩,
      ⟨fun p hp => by rw [hJ _ _ (by omega) (by omega) (by omega), hN _ (by omega)]; exact g2.1 p hp, fun p hp => by
        by_cases e : p = S
        · rw [e, v3, tup_eq]
          exact hxx
        · rw [hJ _ _ (by omega) (by omega) (by omega), hN _ (by omega)]
          exact g2.2.1 p (by omega), fun b hb => by rw [hJ _ _ (by omega) (by omega) (by omega), hN _ (by omega)]; exact g2.2.2 b hb⟩⟩,
      ⟨RDg_cg g3 (hC _ _ (by omega) (by omega) (by omega)) (hC _ _ (by omega) (by omega) (by omega)) (hC _ _ (by omega) (by omega) (by omega)) (hC _ _ (by omega) (by omega) (by omega)) (hR _ (by omega) (by omega) (by omega)) (hR _ (by omega) (by omega) (by omega)) (hR _ (by omega) (by omega) (by omega)) (hR _ (by omega) (by omega) (by omega)),
      RDt_cg g4 (hC _ _ (by omega) (by omega) (by omega)) hT,
      RDw_cg g5 (hJ _ _ (by omega) (by omega) (by omega)) (fun k a b => hR k (by omega) (by omega) (by omega))⟩,
      ⟨RDp_cg g6 (fun o p a b hp => hC _ _ (by omega) (by omega) (by omega)) (fun k hk => hC _ _ (by omega) (by omega) (by omega)) (fun k a b => hR k (by omega) (by omega) (by omega)),
      RDq_cg g7 (fun k a b => hR k (by omega) (by omega) (by omega))⟩,
      ⟨(fun i hi => by
        by_cases e : i = S
        · subst e
          rw [hq, show 2591 + 3 * i = q + 1 by omega, show 2592 + 3 * i = q + 2 by omega, lv 49 (by omega) (by omega), lv 50 (by omega) (by omega), lv 51 (by omega) (by omega), lr q (by omega) (by omega), lr (q + 1) (by omega) (by omega), lr (q + 2) (by omega) (by omega)]
          exact hse
        · exact RDs_cg g8 (fun o p a b hp => hC _ _ (by omega) (by omega) (by omega)) (fun k a b => hR k (by omega) (by omega) (by omega)) i (by omega)),
      RDb_cg g9 (fun p hp => hC _ _ (by omega) (by omega) (by omega)) (fun k a b => hR k (by omega) (by omega) (by omega))⟩,
      RDz_cg g10 (fun k => hC _ _ (by omega) (by omega) (by omega)) (hC _ _ (by omega) (by omega) (by omega)) (fun k => hC _ _ (by omega) (by omega) (by omega)) (fun k a b => hR k (by omega) (by omega) (by omega)) (hR _ (by omega) (by omega) (by omega)) (hR _ (by omega) (by omega) (by omega))⟩
    replace b0 := obI b0
    obtain ⟨y3, If, Jf, b3, b0⟩ := b0
    have r4 : R0 t n b Ie Je (tup Ib 186 q 2) := R0_cg r3 (fun _ _ => rfl) (fun _ _ _ => rfl) rfl (fun k _ _ => tup_ne (by omega)) (fun o k ho => tup_ne (by omega))
    obtain ⟨ww, hRW, g⟩ := is_rel r4 b3
    have hw : ww = 19 ↔ Ie 8 5 = 13 := RW_iff hRW 19 (by decide)
    rcases g with ⟨qe, rfl, b4⟩ | ⟨qe, rfl, rfl, rfl⟩
    · rw [xc_nen (hw.mp qe), cond_false] at hc
      rw [n10, cond_true] at b0
      replace hc := obU hc
      obtain ⟨u4, Ih, Jh, a4, hc⟩ := hc
      obtain ⟨r5, c5, j5, k5, rfl⟩ := R0_adv r4 a4 b4
      refine fin (R0_cg r5 (fun k _ => by rw [tup_ne (by omega), tup_ne (by omega), tup_ne (by omega)]) (fun o k ho => by rw [tup_ne (by omega), tup_ne (by omega), tup_ne (by omega)]) rfl (fun _ _ _ => rfl) (fun _ _ _ => rfl)) (fun o k q1 q2 q3 q4 => ?_) (fun o k q1 q2 q3 => ?_) ?_ (fun k q1 q2 q3 => ?_) ?_ ⟨?_, Or.inl ⟨?_, ?_, ?_⟩⟩ hc b0
      · rw [tup_ne (by omega), tup_ne (by omega), tup_ne (by omega), c5 o k (by omega), cC o k q1 q2]
      · rw [j5 o k (by omega), cJ o k q1 q2 q3]
      · rw [j5 _ _ (by omega)]; exact vJ
      · rw [k5 _ k (by omega), tup_ne (by omega), cR k q1 q2]
      · rw [k5 _ _ (by omega), tup_ne (by omega), cT]
      · rw [tup_ne (by omega), tup_ne (by omega), tup_eq, k5 _ _ (by omega), tup_eq]
      · rw [tup_ne (by omega), tup_ne (by omega), tup_eq]
      · rw [tup_ne (by omega), tup_eq]
      · rw [tup_eq]
    rw [xc_ne (fun q' => qe (hw.mpr q')), cond_true] at hc
    rw [n00, cond_false] at b0
    replace hc := obI hc
    obtain ⟨y5, Ii, Ji, a5, hc⟩ := hc
    replace b0 := obI b0
    obtain ⟨y6, Ij, Jj, b5, b0⟩ := b0
    rcases pw_rel (c := 11) (r := 17) r4 (fun w q => RW_iff q 17 (by decide)) a5 b5 with ⟨rfl, rfl, hF⟩ | ⟨rfl, rfl, r5, c5, j5, k5, rfl⟩
    · rw [q00, cond_true] at hc b0
      cases hc
      cases b0
      rw [j278_0] at hr
      cases hr
      exact Or.inl ⟨rfl, rfl, hF⟩
    rw [q10, cond_false] at hc b0
    replace hc := obI hc
    obtain ⟨y7, Ik, Jk, a6, hc⟩ := hc
    replace b0 := obI b0
    obtain ⟨y8, Il, Jl, b6, b0⟩ := b0
    unfold f88_35 at a6
    have eP : Ii 38 0 = Int32.ofNat P := by rw [c5 _ _ (by omega), cC _ _ (by omega) (by omega)]; exact g1.2.1.1
    have eP2 : Ij 186 2482 = Int32.ofNat P := by rw [k5 _ _ (by omega), tup_ne (by omega), cR _ (by omega) (by omega)]; exact g1.2.2.1
    rw [eP, oi_nat (by omega)] at a6
    replace a6 := obI a6
    obtain ⟨y9, Im, Jm, a7, a6⟩ := a6
    rw [show Int32.ofNat q + 1 = Int32.ofNat (q + 1) from oi_add] at b6
    have nn2 : ∀ p, p < P → RN (Ji 39 p) ((tup Jr 187 (65 + S) x) 187 (60 + p)) := fun p hp => by
      rw [j5 _ _ (by omega)]
      exact nn1 p hp
    rcases known_rel (to := q + 1) (by omega) r5 (by omega) eP2 nn2 a7 b6 with ⟨rfl, rfl, hF⟩ | ⟨rfl, rfl, a, ha, rfl, rfl, b7⟩
    · rw [n00, cond_false] at a6 b0
      cases a6
      cases b0
      rw [n00, cond_false] at hc
      cases hc
      rw [j278_0] at hr
      cases hr
      exact Or.inl ⟨rfl, rfl, hF⟩
    rw [n10, cond_true] at a6 b0
    rw [tup_eq] at a6
    replace a6 := obU a6
    obtain ⟨u5, Io, Jo, a8, a6⟩ := a6
    have r6 : R0 t n b (tup (tup Ii 8 8 (Int32.ofNat a)) 50 S (Int32.ofNat a)) Jm (tup Ij 186 (q + 1) (Int32.ofNat a)) := R0_cg r5 (fun k hk => by rw [tup_ne (by omega), tup_ne (by omega)]) (fun o k ho => by rw [tup_ne (by omega), tup_ne (by omega)]) rfl (fun k _ _ => tup_ne (by omega)) (fun o k ho => tup_ne (by omega))
    obtain ⟨r7, c7, j7, k7, rfl⟩ := R0_adv r6 a8 b7
    have dC : ∀ o k, 35 ≤ o → o ≤ 59 → ¬ (o = 50 ∧ k = S) → Io o k = Ic o k := fun o k q1 q2 q3 => by rw [c7 o k (by omega), tup_ne q3, tup_ne (by omega), c5 o k (by omega), cC o k q1 q2]
    have d50 : Io 50 S = Int32.ofNat a := by rw [c7 _ _ (by omega), tup_eq]
    have dJ : ∀ o k, 35 ≤ o → o ≤ 59 → Jo o k = Je o k := fun o k q1 q2 => by rw [j7 o k (by omega), j5 o k (by omega)]
    have dR : ∀ k, 2480 ≤ k → k < 3092 → ¬ (q ≤ k ∧ k < q + 3) → Il 186 k = Is 186 k := fun k q1 q2 q3 => by rw [k7 _ k (by omega), tup_ne (by omega), k5 _ k (by omega), tup_ne (by omega), cR k q1 q2]
    have dT : Il 185 20 = Is 185 20 := by rw [k7 _ _ (by omega), tup_ne (by omega), k5 _ _ (by omega), tup_ne (by omega), cT]
    have d1 : Il 186 (q + 1) = Int32.ofNat a := by rw [k7 _ _ (by omega), tup_eq]
    replace b0 := obI b0
    obtain ⟨w1, Ip, Jp, b8, b0⟩ := b0
    obtain ⟨ww1, eq, hRW1⟩ := RT_word r7.1 b8
    cases eq
    have hat : w1 = 13 ↔ Io 8 5 = 6 := RW_iff hRW1 13 (by decide)
    -- with a cell
    by_cases at1 : w1 = 13
    · rw [xc_nen (hat.mp at1), cond_false] at a6
      rw [xc_nen at1, cond_false] at b0
      replace a6 := obU a6
      obtain ⟨u6, Iq, Jq, a9, a6⟩ := a6
      replace b0 := obI b0
      obtain ⟨y10, Iu, Ju, b9, b0⟩ := b0
      have r8 : R0 t n b Io Jo (tup Il 186 q 0) := R0_cg r7 (fun _ _ => rfl) (fun _ _ _ => rfl) rfl (fun k _ _ => tup_ne (by omega)) (fun o k ho => tup_ne (by omega))
      obtain ⟨ww2, hRW2, gg⟩ := is_rel r8 b9
      have e13 : ww2 = 13 := (RW_iff hRW2 13 (by decide)).mpr (hat.mp at1)
      rcases gg with ⟨-, rfl, b10⟩ | ⟨ne, -⟩
      · rw [q10, cond_false, show Int32.ofNat q + 2 = Int32.ofNat (q + 2) from oi_add] at b0
        obtain ⟨r9, c9, j9, k9, rfl⟩ := R0_adv r8 a9 b10
        replace a6 := obI a6
        obtain ⟨y11, Iv, Jv, a10, a6⟩ := a6
        replace b0 := obI b0
        obtain ⟨y12, Iw, Jw, b11, b0⟩ := b0
        have hD3 : RD P S B W D Iq Jq Iu (tup Jr 187 (65 + S) x) := by
          have hC : ∀ o k, 35 ≤ o → o ≤ 59 → ¬ (o = 50 ∧ k = S) → Iq o k = Ic o k := fun o k q1 q2 q3 => by rw [c9 o k (by omega), dC o k q1 q2 q3]
          have hJ : ∀ o k, 35 ≤ o → o ≤ 59 → ¬ (o = 48 ∧ k = S) → Jq o k = Jc o k := fun o k q1 q2 q3 => by rw [j9 o k (by omega), dJ o k q1 q2, cJ o k q1 q2 q3]
          have hR : ∀ k, 2480 ≤ k → k < 3092 → ¬ (q ≤ k ∧ k < q + 3) → Iu 186 k = Is 186 k := fun k q1 q2 q3 => by rw [k9 _ k (by omega), tup_ne (by omega), dR k q1 q2 q3]
          have hT : Iu 185 20 = Is 185 20 := by rw [k9 _ _ (by omega), tup_ne (by omega), dT]
          have hN : ∀ k, ¬ (k = 65 + S) → (tup Jr 187 (65 + S) x) 187 k = Jr 187 k := fun k q => tup_ne (by omega)
          exact ⟨⟨RDc_cg g1 (hC _ _ (by omega) (by omega) (by omega)) (hC _ _ (by omega) (by omega) (by omega)) (hC _ _ (by omega) (by omega) (by omega)) (fun k a b => hR k (by omega) (by omega) (by omega)),
      RDn_cg g2 (fun p hp => hJ _ _ (by omega) (by omega) (by omega)) (fun p hp => hJ _ _ (by omega) (by omega) (by omega)) (fun p hp => hJ _ _ (by omega) (by omega) (by omega)) (fun p hp => hN _ (by omega)) (fun p hp => hN _ (by omega)) (fun p hp => hN _ (by omega))⟩,
      ⟨RDg_cg g3 (hC _ _ (by omega) (by omega) (by omega)) (hC _ _ (by omega) (by omega) (by omega)) (hC _ _ (by omega) (by omega) (by omega)) (hC _ _ (by omega) (by omega) (by omega)) (hR _ (by omega) (by omega) (by omega)) (hR _ (by omega) (by omega) (by omega)) (hR _ (by omega) (by omega) (by omega)) (hR _ (by omega) (by omega) (by omega)),
      RDt_cg g4 (hC _ _ (by omega) (by omega) (by omega)) hT,
      RDw_cg g5 (hJ _ _ (by omega) (by omega) (by omega)) (fun k a b => hR k (by omega) (by omega) (by omega))⟩,
      ⟨RDp_cg g6 (fun o p a b hp => hC _ _ (by omega) (by omega) (by omega)) (fun k hk => hC _ _ (by omega) (by omega) (by omega)) (fun k a b => hR k (by omega) (by omega) (by omega)),
      RDq_cg g7 (fun k a b => hR k (by omega) (by omega) (by omega))⟩,
      ⟨RDs_cg g8 (fun o p a b hp => hC _ _ (by omega) (by omega) (by omega)) (fun k a b => hR k (by omega) (by omega) (by omega)),
      RDb_cg g9 (fun p hp => hC _ _ (by omega) (by omega) (by omega)) (fun k a b => hR k (by omega) (by omega) (by omega))⟩,
      RDz_cg g10 (fun k => hC _ _ (by omega) (by omega) (by omega)) (hC _ _ (by omega) (by omega) (by omega)) (fun k => hC _ _ (by omega) (by omega) (by omega)) (fun k a b => hR k (by omega) (by omega) (by omega)) (hR _ (by omega) (by omega) (by omega)) (hR _ (by omega) (by omega) (by omega))⟩
        rcases cell_rel (to := q + 2) (by omega) r9 hD3 a10 b11 with ⟨rfl, rfl, hF⟩ | ⟨rfl, rfl, r, c, Ix, Iy, ⟨hr5, hc6⟩, x1, x2, x3, x4, x5, x6, x7⟩
        · rw [n00, cond_false] at a6 b0
          cases a6
          cases b0
          rw [n00, cond_false] at hc
          cases hc
          rw [j278_0] at hr
          cases hr
          exact Or.inl ⟨rfl, rfl, hF⟩
        rw [n10, cond_true] at a6 b0
        replace a6 := obU a6
        obtain ⟨u7, Ia2, Ja2, a11, a6⟩ := a6
        cases a6
        rw [n10, cond_true] at hc
        rw [x1] at a11
        have r10 : R0 t n b (tup (tup Iv 49 S 0) 51 S (Int32.ofNat (10 * r + c))) Jv Ix := R0_cg x2 (fun k _ => by rw [tup_ne (by omega), tup_ne (by omega)]) (fun o k ho => by rw [tup_ne (by omega), tup_ne (by omega)]) rfl (fun _ _ _ => rfl) (fun _ _ _ => rfl)
        obtain ⟨r11, c11, j11, k11, rfl⟩ := R0_adv r10 a11 x3
        subst x4
        have vx : Iy 186 q = 0 := by rw [k11 _ _ (by omega), x7 _ _ (by omega) (by omega), k9 _ _ (by omega), tup_eq]
        have vx1 : Iy 186 (q + 1) = Int32.ofNat a := by rw [k11 _ _ (by omega), x7 _ _ (by omega) (by omega), k9 _ _ (by omega), tup_ne (by omega), d1]
        refine fin (R0_cg r11 (fun _ _ => rfl) (fun _ _ _ => rfl) rfl (fun k _ _ => tup_ne (by omega)) (fun o k ho => tup_ne (by omega))) (fun o k q1 q2 q3 q4 => ?_) (fun o k q1 q2 q3 => ?_) ?_ (fun k q1 q2 q3 => ?_) ?_ ⟨?_, Or.inr (Or.inl ⟨?_, ?_, ⟨a, ha, ?_⟩, r, c, hr5, hc6, ?_, tup_eq⟩)⟩ hc b0
        · rw [c11 o k (by omega), tup_ne (by omega), tup_ne (by omega), x5 o k (by omega) (by omega), c9 o k (by omega), dC o k q1 q2 (by omega)]
        · rw [j11 o k (by omega), x6 o k (by omega), j9 o k (by omega), dJ o k q1 q2, cJ o k q1 q2 q3]
        · rw [j11 _ _ (by omega), x6 _ _ (by omega), j9 _ _ (by omega), dJ _ _ (by omega) (by omega)]; exact vJ
        · rw [tup_ne (by omega), k11 _ k (by omega), x7 _ k (by omega) (by omega), k9 _ k (by omega), tup_ne (by omega), dR k q1 q2 q3]
        · rw [tup_ne (by omega), k11 _ _ (by omega), x7 _ _ (by omega) (by omega), k9 _ _ (by omega), tup_ne (by omega), dT]
        · rw [c11 _ _ (by omega), tup_ne (by omega), tup_eq, tup_ne (by omega), vx]
        · rw [c11 _ _ (by omega), tup_ne (by omega), tup_eq]
        · rw [c11 _ _ (by omega), tup_ne (by omega), tup_ne (by omega), x5 _ _ (by omega) (by omega), c9 _ _ (by omega), d50, tup_ne (by omega), vx1]
        · rw [c11 _ _ (by omega), tup_ne (by omega), tup_ne (by omega), x5 _ _ (by omega) (by omega), c9 _ _ (by omega), d50]
        · rw [c11 _ _ (by omega), tup_eq]
      · exact absurd e13 ne
    -- with another one
    · rw [xc_ne (fun q' => at1 (hat.mpr q')), cond_true] at a6
      rw [xc_ne at1, cond_true] at b0
      replace b0 := obI b0
      obtain ⟨y10, Iu, Ju, b9, b0⟩ := b0
      have r8 : R0 t n b Io Jo (tup Il 186 q 1) := R0_cg r7 (fun _ _ => rfl) (fun _ _ _ => rfl) rfl (fun k _ _ => tup_ne (by omega)) (fun o k ho => tup_ne (by omega))
      obtain ⟨ww2, hRW2, gg⟩ := is_rel r8 b9
      have e13 : ww2 ≠ 13 := fun q' => at1 (hat.mpr ((RW_iff hRW2 13 (by decide)).mp q'))
      rcases gg with ⟨ye, -⟩ | ⟨-, rfl, rfl, rfl⟩
      · exact absurd ye e13
      rw [q00, cond_true] at b0
      replace a6 := obI a6
      obtain ⟨y11, Iq, Jq, a9, a6⟩ := a6
      replace b0 := obI b0
      obtain ⟨y12, Iv, Jv, b10, b0⟩ := b0
      rcases pw_rel (c := 12) (r := 18) r8 (fun w q => RW_iff q 18 (by decide)) a9 b10 with ⟨rfl, rfl, hF⟩ | ⟨rfl, rfl, r9, c9, j9, k9, rfl⟩
      · rw [q00, cond_true] at a6
        rw [n00, cond_false] at b0
        cases a6
        cases b0
        rw [n00, cond_false] at hc
        cases hc
        rw [j278_0] at hr
        cases hr
        exact Or.inl ⟨rfl, rfl, hF⟩
      rw [q10, cond_false] at a6
      rw [n10, cond_true] at b0
      replace a6 := obI a6
      obtain ⟨y13, Iw, Jw, a10, a6⟩ := a6
      replace b0 := obI b0
      obtain ⟨y14, Ix, Jx, b11, b0⟩ := b0
      have eP3 : Iq 38 0 = Int32.ofNat P := by rw [c9 _ _ (by omega), dC _ _ (by omega) (by omega) (by omega)]; exact g1.2.1.1
      have eP4 : Iv 186 2482 = Int32.ofNat P := by rw [k9 _ _ (by omega), tup_ne (by omega), dR _ (by omega) (by omega) (by omega)]; exact g1.2.2.1
      rw [eP3] at a10
      have nn3 : ∀ p, p < P → RN (Jq 39 p) ((tup Jr 187 (65 + S) x) 187 (60 + p)) := fun p hp => by
        rw [j9 _ _ (by omega), dJ _ _ (by omega) (by omega)]
        exact nn1 p hp
      have e50 : Iq 50 S = Int32.ofNat a := by rw [c9 _ _ (by omega), d50]
      have e51 : Iv 186 (q + 1) = Int32.ofNat a := by rw [k9 _ _ (by omega), tup_ne (by omega), d1]
      -- the way on, where both are not the same one
      have on : f241_185_j164 N' Iv (tup Jr 187 (65 + S) x) (Int32.ofNat q) = some (y0, Iz, Jz) → (y13 = 1 → xcmp .ne (Iw 8 8) (Iw 50 S) = true) → PO t n b v w I1 J1 I2 J2 := fun hb hne => by
        unfold f241_185_j164 at hb
        replace hb := obI hb
        obtain ⟨y15, Iy, Jy, b12, hb⟩ := hb
        rw [show Int32.ofNat q + 2 = Int32.ofNat (q + 2) from oi_add] at b12
        rcases known_rel (to := q + 2) (by omega) r9 (by omega) eP4 nn3 a10 b12 with ⟨rfl, rfl, hF⟩ | ⟨rfl, rfl, b', hb5, rfl, rfl, b13⟩
        · rw [n00, cond_false] at a6 hb
          cases a6
          cases hb
          rw [n00, cond_false] at hc
          cases hc
          rw [j278_0] at hr
          cases hr
          exact Or.inl ⟨rfl, rfl, hF⟩
        rw [n10, cond_true, hne rfl, cond_true] at a6
        rw [n10, cond_true] at hb
        replace a6 := obU a6
        obtain ⟨u7, Ia2, Ja2, a11, a6⟩ := a6
        cases a6
        rw [n10, cond_true] at hc
        rw [tup_eq] at a11
        have r10 : R0 t n b (tup (tup (tup Iq 8 8 (Int32.ofNat b')) 49 S 1) 51 S (Int32.ofNat b')) Jw (tup Iv 186 (q + 2) (Int32.ofNat b')) := R0_cg r9 (fun k hk => by rw [tup_ne (by omega), tup_ne (by omega), tup_ne (by omega)]) (fun o k ho => by rw [tup_ne (by omega), tup_ne (by omega), tup_ne (by omega)]) rfl (fun k _ _ => tup_ne (by omega)) (fun o k ho => tup_ne (by omega))
        obtain ⟨r11, c11, j11, k11, rfl⟩ := R0_adv r10 a11 b13
        refine fin r11 (fun o k q1 q2 q3 q4 => ?_) (fun o k q1 q2 q3 => ?_) ?_ (fun k q1 q2 q3 => ?_) ?_ ⟨?_, Or.inr (Or.inr ⟨?_, ?_, ?_, ⟨a, ha, ?_⟩, b', hb5, ?_⟩)⟩ hc hb
        · rw [c11 o k (by omega), tup_ne (by omega), tup_ne (by omega), tup_ne (by omega), c9 o k (by omega), dC o k q1 q2 (by omega)]
        · rw [j11 o k (by omega), j9 o k (by omega), dJ o k q1 q2, cJ o k q1 q2 q3]
        · rw [j11 _ _ (by omega), j9 _ _ (by omega), dJ _ _ (by omega) (by omega)]; exact vJ
        · rw [k11 _ k (by omega), tup_ne (by omega), k9 _ k (by omega), tup_ne (by omega), dR k q1 q2 q3]
        · rw [k11 _ _ (by omega), tup_ne (by omega), k9 _ _ (by omega), tup_ne (by omega), dT]
        · rw [c11 _ _ (by omega), tup_ne (by omega), tup_eq, k11 _ _ (by omega), tup_ne (by omega), k9 _ _ (by omega), tup_eq]
        · rw [c11 _ _ (by omega), tup_ne (by omega), tup_eq]
        · rw [c11 _ _ (by omega), tup_ne (by omega), tup_ne (by omega), tup_ne (by omega), e50, k11 _ _ (by omega), tup_ne (by omega), e51]
        · rw [c11 _ _ (by omega), tup_eq, k11 _ _ (by omega), tup_eq]
        · rw [c11 _ _ (by omega), tup_ne (by omega), tup_ne (by omega), tup_ne (by omega), e50]
        · rw [c11 _ _ (by omega), tup_eq]
      rcases known_c (Jr := tup Jr 187 (65 + S) x) r9 (by omega) nn3 a10 with ⟨rfl, hF, gn⟩ | ⟨gn, ix, gi, gg⟩
      · have e := gn _ _ b11
        cases e
        rw [q00, cond_true] at b0
        exact on b0 (fun q' => absurd q' (by decide))
      · have e := gn _ _ b11
        cases e
        rw [q10, cond_false] at b0
        replace b0 := obI b0
        obtain ⟨y15, Iy, Jy, b12, b0⟩ := b0
        rw [eP4] at b12
        have e := gi _ _ b12
        cases e
        rw [show (Int32.ofNat q + 1).toNatClampNeg = q + 1 from ox (b := 1) (by omega), e51] at b0
        rcases gg with ⟨rfl, rfl, -, -⟩ | ⟨b', hb5, rfl, rfl, rfl, rfl⟩
        · rw [xc_ne (fun q' => oi_m1 (by omega) q'.symm), cond_true] at b0
          exact on b0 (fun q' => absurd q' (by decide))
        · by_cases ab : Int32.ofNat b' = Int32.ofNat a
          · rw [xc_nen ab, cond_false, f225_is r9.2.1] at b0
            dsimp only at b0
            cases b0
            rw [n10, cond_true, tup_eq, tup_ne (by omega), e50, xc_nen ab, cond_false, f33_is] at a6
            dsimp only at a6
            cases a6
            rw [n00, cond_false] at hc
            cases hc
            rw [j278_0] at hr
            cases hr
            have r10 : R0 t n b (tup Iq 8 8 (Int32.ofNat b')) J1 Iv := R0_cg r9 (fun k hk => tup_ne (by omega)) (fun o k ho => tup_ne (by omega)) rfl (fun _ _ _ => rfl) (fun _ _ _ => rfl)
            exact Or.inl ⟨rfl, rfl, RF_of r10 (by decide)⟩
          · rw [xc_ne ab, cond_true] at b0
            exact on b0 (fun _ => by rw [tup_eq, tup_ne (by omega), e50]; exact xc_ne ab)
  · rw [decide_eq_false h6, cond_false, f33_is] at hc
    dsimp only at hc
    cases hc
    have e0 : S = 6 := by omega
    unfold f236_185 at b1
    rw [show ((2480 : Int32) + 3).toNatClampNeg = 2483 from rfl, e3, e0, xc_nen (show Int32.ofNat 6 = 6 from rfl), cond_false, f225_is hs.2.1] at b1
    dsimp only at b1
    cases b1
    rw [n00, cond_false] at b0
    cases b0
    rw [j278_0] at hr
    cases hr
    exact Or.inl ⟨rfl, rfl, RF_of hs (by decide)⟩
end PH
