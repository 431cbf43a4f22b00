/-! THE PARTS IN A ROW -/
section PL
variable {t : Nat → Int32} {n N N' P S B W D : Nat} {Ic Ir I1 I2 : tI} {Jc Jr J1 J2 : tJ} {v w : Int32} {b : Int}
def cPart (N : Nat) (I : tI) (J : tJ) : Option (Int32 × tI × tJ) := bif xcmp .eq (I 8 5) 0 then f77_35 N I J else bif xcmp .eq (I 8 5) 2 then f78_35 N I J else bif xcmp .eq (I 8 5) 4 then f81_35 N I J else bif xcmp .eq (I 8 5) 5 then f83_35 N I J else bif xcmp .eq (I 8 5) 10 then f87_35 N I J else bif xcmp .eq (I 8 5) 14 then f89_35 N I J else some (f33_8 I J 2)
theorem part_rel (h : R0 t n b Ic Jc Ir) (hD : RD P S B W D Ic Jc Ir Jr) (hc : cPart N Ic Jc = some (v, I1, J1)) (hr : f243_185 N' Ir Jr = some (w, I2, J2)) : PO t n b v w I1 J1 I2 J2 := by
  unfold f243_185 at hr
  replace hr := obI hr
  obtain ⟨w1, Ia, Ja, b1, hr⟩ := hr
  obtain ⟨ww, eq, hRW⟩ := RT_word h.1 b1
  cases eq
  have h5 : w1 = 5 ↔ Ic 8 5 = 0 := RW_iff hRW 5 (by decide)
  have h6 : w1 = 6 ↔ Ic 8 5 = 2 := RW_iff hRW 6 (by decide)
  have h7 : w1 = 7 ↔ Ic 8 5 = 4 := RW_iff hRW 7 (by decide)
  have h8 : w1 = 8 ↔ Ic 8 5 = 5 := RW_iff hRW 8 (by decide)
  have h9 : w1 = 9 ↔ Ic 8 5 = 10 := RW_iff hRW 9 (by decide)
  have h10 : w1 = 10 ↔ Ic 8 5 = 14 := RW_iff hRW 10 (by decide)
  unfold cPart at hc
  obtain ⟨-, ⟨g3, -, -⟩, -⟩ := id hD
  have gw := g3.1
  have rbad : (match f225_185 Ir Jr 2 with | (v3, I3, J3) => some (v3, I3, J3)) = some (w, I2, J2) → (f33_8 Ic Jc 2) = (v, I1, J1) → PO t n b v w I1 J1 I2 J2 := fun q1 q2 => by
    rw [f225_is h.2.1] at q1
    rw [f33_is] at q2
    dsimp only at q1
    cases q1
    cases q2
    exact Or.inl ⟨rfl, rfl, RF_of h (by decide)⟩
  by_cases k5 : w1 = 5
  · rw [xc_eq (h5.mp k5), cond_true] at hc
    subst k5
    exact size_rel h hD hc hr
  rw [xc_eqn (fun q => k5 (h5.mpr q)), cond_false] at hc
  by_cases k6 : w1 = 6
  · rw [xc_eq (h6.mp k6), cond_true] at hc
    subst k6
    exact price_rel h hD hc hr
  rw [xc_eqn (fun q => k6 (h6.mpr q)), cond_false] at hc
  by_cases k7 : w1 = 7
  · rw [xc_eq (h7.mp k7), cond_true] at hc
    subst k7
    rw [show xcmp .lt (7 : Int32) 5 = false from rfl, cond_false, show xcmp .gt (7 : Int32) 10 = false from rfl, cond_false, show xcmp .lt (7 : Int32) 7 = false from rfl, cond_false, show xcmp .gt (7 : Int32) 9 = false from rfl, cond_false, g3.2.1.2.2.1] at hr
    by_cases hW : 0 < W
    · rw [xc_ne (fun q => by
        have := oi_inj (b := 0) (by omega) (by omega) q
        omega), cond_true] at hr
      exact wall_rel h hW hD hc hr
    · have e0 : W = 0 := by omega
      rw [e0, xc_nen (show Int32.ofNat 0 = 0 from rfl), cond_false] at hr
      unfold f81_35 at hc
      rw [f76_is g3.1.1 g3.2.1.1, if_neg hW] at hc
      dsimp only at hc
      rw [n00, cond_false] at hc
      refine rbad hr ?_
      rw [f33_is] at hc ⊢
      dsimp only at hc
      cases hc
      rfl
  rw [xc_eqn (fun q => k7 (h7.mpr q)), cond_false] at hc
  by_cases k8 : w1 = 8
  · rw [xc_eq (h8.mp k8), cond_true] at hc
    subst k8
    rw [show xcmp .lt (8 : Int32) 5 = false from rfl, cond_false, show xcmp .gt (8 : Int32) 10 = false from rfl, cond_false, show xcmp .lt (8 : Int32) 7 = false from rfl, cond_false, show xcmp .gt (8 : Int32) 9 = false from rfl, cond_false, g3.2.1.2.2.1] at hr
    by_cases hW : 0 < W
    · rw [xc_ne (fun q => by
        have := oi_inj (b := 0) (by omega) (by omega) q
        omega), cond_true] at hr
      exact person_rel h hW hD hc hr
    · have e0 : W = 0 := by omega
      rw [e0, xc_nen (show Int32.ofNat 0 = 0 from rfl), cond_false] at hr
      unfold f83_35 at hc
      rw [f76_is g3.1.1 g3.2.1.1, if_neg hW] at hc
      dsimp only at hc
      rw [n00, cond_false] at hc
      refine rbad hr ?_
      rw [f33_is] at hc ⊢
      dsimp only at hc
      cases hc
      rfl
  rw [xc_eqn (fun q => k8 (h8.mpr q)), cond_false] at hc
  by_cases k9 : w1 = 9
  · rw [xc_eq (h9.mp k9), cond_true] at hc
    subst k9
    rw [show xcmp .lt (9 : Int32) 5 = false from rfl, cond_false, show xcmp .gt (9 : Int32) 10 = false from rfl, cond_false, show xcmp .lt (9 : Int32) 7 = false from rfl, cond_false, show xcmp .gt (9 : Int32) 9 = false from rfl, cond_false, g3.2.1.2.2.1] at hr
    by_cases hW : 0 < W
    · rw [xc_ne (fun q => by
        have := oi_inj (b := 0) (by omega) (by omega) q
        omega), cond_true] at hr
      exact sight_rel h hW hD hc hr
    · have e0 : W = 0 := by omega
      rw [e0, xc_nen (show Int32.ofNat 0 = 0 from rfl), cond_false] at hr
      unfold f87_35 at hc
      rw [f76_is g3.1.1 g3.2.1.1, if_neg hW] at hc
      dsimp only at hc
      rw [n00, cond_false] at hc
      refine rbad hr ?_
      rw [f33_is] at hc ⊢
      dsimp only at hc
      cases hc
      rfl
  rw [xc_eqn (fun q => k9 (h9.mpr q)), cond_false] at hc
  by_cases k10 : w1 = 10
  · rw [xc_eq (h10.mp k10), cond_true] at hc
    subst k10
    exact buyer_rel h hD hc hr
  rw [xc_eqn (fun q => k10 (h10.mpr q)), cond_false] at hc
  have hc' := Option.some.inj hc
  rcases bsp hr with ⟨-, hr⟩ | ⟨c1, hr⟩
  · exact rbad hr hc'
  rcases bsp hr with ⟨-, hr⟩ | ⟨c2, hr⟩
  · exact rbad hr hc'
  exfalso
  rw [tc_lt, show (5 : Int32).toInt = 5 from rfl] at c1
  rw [tc_gt, show (10 : Int32).toInt = 10 from rfl] at c2
  have c1 := of_decide_eq_false c1
  have c2 := of_decide_eq_false c2
  have e := natI (x := w1) (by omega)
  have : w1.toInt.toNat = 5 ∨ w1.toInt.toNat = 6 ∨ w1.toInt.toNat = 7 ∨ w1.toInt.toNat = 8 ∨ w1.toInt.toNat = 9 ∨ w1.toInt.toNat = 10 := by omega
  rcases this with q | q | q | q | q | q <;> rw [q] at e
  · exact k5 e
  · exact k6 e
  · exact k7 e
  · exact k8 e
  · exact k9 e
  · exact k10 e
theorem f32_is {I : tI} {J : tJ} : f32_8 I J = (if I 8 2 = 0 then 1 else 0, I, J) := by
  unfold f32_8
  by_cases h : I 8 2 = 0
  · rw [xc_nen h, cond_false, if_pos h]
  · rw [xc_ne h, cond_true, if_neg h]
theorem RT_lt (h : RT t n Ic Jc Ir) (h0 : Ic 8 2 ≠ 0) : (Ic 8 3).toInt < n := by
  obtain ⟨hn9, -, -, -, s, hs, h3, -, hc, -⟩ := h
  rw [h3, oi_int (by omega)]
  rcases hc with ⟨-, c, -⟩ | ⟨c, -⟩ | ⟨c, -⟩ | ⟨c, -⟩
  · exact absurd c h0
  · have := c.1; omega
  · have := c.1; omega
  · have := c.1; omega
theorem loop0_c {k : Nat} {x3 : Int32} {Y : Int32 × Int32 × tI × tJ} (h : f75_35_l24 N k Ic Jc 0 x3 = some Y) : Y = (0, x3, Ic, Jc) := by
  cases k with
  | zero => cases h
  | succ k =>
    simp only [f75_35_l24] at h
    rcases bsp h with ⟨-, h⟩ | ⟨-, h⟩
    · cases h
      rfl
    · rw [q00, cond_true] at h
      cases h
      rfl
theorem loop0_r {k : Nat} {Y : Int32 × tI × tJ} (h : f244_185_l31 N k Ir Jr 0 = some Y) : Y = (0, Ir, Jr) := by
  cases k with
  | zero => cases h
  | succ k =>
    simp only [f244_185_l31] at h
    rw [q00, cond_true] at h
    cases h
    rfl
theorem loop_rel : ∀ (k m k' : Nat) {Ic Ir : tI} {Jc Jr : tJ} {Y : Int32 × Int32 × tI × tJ} {Y' : Int32 × tI × tJ}, R0 t n (m : Int) Ic Jc Ir → (∃ P S B W D, RD P S B W D Ic Jc Ir Jr) → f75_35_l24 N k Ic Jc 1 (Int32.ofNat m) = some Y → f244_185_l31 N' k' Ir Jr 1 = some Y' → ((Y.1 = 0 ∧ Y'.1 = 0 ∧ RF t Y.2.2.1 Y'.2.1) ∨ (Y.1 = 1 ∧ Y'.1 = 1 ∧ (Y'.2.1 185 18 = 0 ∧ GK t Y.2.2.1 Y'.2.1 ∧ Y'.2.1 185 17 = -1 ∧ Y.2.2.1 8 9 = 0 ∧ Y.2.2.1 8 10 = -1) ∧ ∃ P S B W D, RD P S B W D Y.2.2.1 Y.2.2.2 Y'.2.1 Y'.2.2)) ∧ ∀ i, i < 60 → Y'.2.2 187 i = Jr 187 i
  | 0, _, _, _, _, _, _, _, _, _, _, hc, _ => by cases hc
  | _ + 1, _, 0, _, _, _, _, _, _, _, _, _, hr => by cases hr
  | k + 1, m, k' + 1, Ic, Ir, Jc, Jr, Y, Y', h, hD, hc, hr => by
    obtain ⟨P, S, B, W, D, hD⟩ := hD
    have hn9 := h.1.1
    have hb := h.2.2.1
    have hend : Ic 8 2 = 0 ↔ Ir 185 12 = 0 := by
      obtain ⟨s, e, -, -, -, -, -, -, hk⟩ := RT_cases h.1
      rcases hk with ⟨a, b, -⟩ | ⟨a, b, -⟩ | ⟨a, b, -⟩ | ⟨a, b, -⟩ | ⟨a, b, -⟩ <;> rw [a, b] <;> decide
    simp only [f75_35_l24] at hc
    simp only [f244_185_l31] at hr
    rw [q10, cond_false] at hc hr
    by_cases h0 : Ic 8 2 = 0
    · rw [xc_eq (hend.mp h0), cond_true] at hr
      cases hr
      have hY : Y = (1, Int32.ofNat m, Ic, Jc) := by
        rcases bsp hc with ⟨-, hc⟩ | ⟨-, hc⟩
        · cases hc
          rfl
        · rw [f32_is] at hc
          dsimp only at hc
          rw [if_pos h0, n10, cond_true] at hc
          cases hc
          rfl
      rw [hY]
      exact ⟨Or.inr ⟨rfl, rfl, ⟨h.2.1, h.2.2.2⟩, P, S, B, W, D, hD⟩, fun _ _ => rfl⟩
    · have hlt := RT_lt h.1 h0
      rw [xc_eqn (fun q => h0 (hend.mpr q)), cond_false] at hr
      rw [show xcmp .ge (Int32.ofNat m) 900 = decide (900 ≤ m) from oi_ge (q := 900) (by omega) (by omega), decide_eq_false (by omega), cond_false, f32_is] at hc
      dsimp only at hc
      rw [if_neg h0, n00, cond_false, oi_suc (by omega)] at hc
      replace hr := obI hr
      obtain ⟨v6, I6, J6, e6, hr⟩ := hr
      have hp : ∃ v5 I5 J5, cPart N Ic Jc = some (v5, I5, J5) ∧ f75_35_l24 N k I5 J5 v5 (Int32.ofNat (m + 1)) = some Y := by
        unfold cPart
        rcases bsp hc with ⟨c, hc⟩ | ⟨c, hc⟩
        · replace hc := obI hc
          obtain ⟨v5, I5, J5, e5, hc⟩ := hc
          exact ⟨v5, I5, J5, by rw [c, cond_true]; exact e5, hc⟩
        rw [c, cond_false]
        rcases bsp hc with ⟨c, hc⟩ | ⟨c, hc⟩
        · replace hc := obI hc
          obtain ⟨v5, I5, J5, e5, hc⟩ := hc
          exact ⟨v5, I5, J5, by rw [c, cond_true]; exact e5, hc⟩
        rw [c, cond_false]
        rcases bsp hc with ⟨c, hc⟩ | ⟨c, hc⟩
        · replace hc := obI hc
          obtain ⟨v5, I5, J5, e5, hc⟩ := hc
          exact ⟨v5, I5, J5, by rw [c, cond_true]; exact e5, hc⟩
        rw [c, cond_false]
        rcases bsp hc with ⟨c, hc⟩ | ⟨c, hc⟩
        · replace hc := obI hc
          obtain ⟨v5, I5, J5, e5, hc⟩ := hc
          exact ⟨v5, I5, J5, by rw [c, cond_true]; exact e5, hc⟩
        rw [c, cond_false]
        rcases bsp hc with ⟨c, hc⟩ | ⟨c, hc⟩
        · replace hc := obI hc
          obtain ⟨v5, I5, J5, e5, hc⟩ := hc
          exact ⟨v5, I5, J5, by rw [c, cond_true]; exact e5, hc⟩
        rw [c, cond_false]
        rcases bsp hc with ⟨c, hc⟩ | ⟨c, hc⟩
        · replace hc := obI hc
          obtain ⟨v5, I5, J5, e5, hc⟩ := hc
          exact ⟨v5, I5, J5, by rw [c, cond_true]; exact e5, hc⟩
        rw [c, cond_false]
        obtain ⟨⟨v5, I5, J5⟩, e5⟩ := exq (f33_8 Ic Jc 2)
        rw [e5] at hc
        dsimp only at hc
        exact ⟨v5, I5, J5, by rw [e5], hc⟩
      obtain ⟨v5, I5, J5, e5, hc⟩ := hp
      have hN : ∀ i, i < 60 → J6 187 i = Jr 187 i := fun i hi => (f243_185_frD ⟨P, S, B, hD.1.1.1, hD.1.1.2.2⟩ e6).2 187 i (by
        show (Nat.beq 187 187 && Nat.ble 60 i) = false
        rw [show Nat.ble 60 i = false from Bool.eq_false_iff.mpr (fun q => absurd (Nat.le_of_ble_eq_true q) (by omega))]
        rfl)
      rcases part_rel h hD e5 e6 with ⟨rfl, rfl, hF⟩ | ⟨rfl, rfl, r, hD'⟩
      · rw [loop0_c hc, loop0_r hr]
        exact ⟨Or.inl ⟨rfl, rfl, hF⟩, hN⟩
      · obtain ⟨g1, g2⟩ := loop_rel k (m + 1) k' (by rw [show ((m + 1 : Nat) : Int) = (m : Int) + 1 by omega]; exact r) hD' hc hr
        exact ⟨g1, fun i hi => by rw [g2 i hi, hN i hi]⟩
end PL
