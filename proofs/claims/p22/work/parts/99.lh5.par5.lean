/-! THE PARTS OF A SCENE, in step: size, price, wall, buyer -/
def PO (t : Nat → Int32) (n : Nat) (b : Int) (v w : Int32) (I1 : tI) (J1 : tJ) (I2 : tI) (J2 : tJ) : Prop := OUT t v w I1 I2 (R0 t n (b + 1) I1 J1 I2 ∧ ∃ P S B W D, RD P S B W D I1 J1 I2 J2)
section PF
variable {t : Nat → Int32} {n N N' P S B W D : Nat} {Ic Ir I1 I2 : tI} {Jc Jr J1 J2 : tJ} {v w : Int32} {b : Int}
theorem j278_0 {I : tI} {J : tJ} : f243_185_j278 N I J 0 = some (0, I, J) := rfl
theorem close_rel (h : R0 t n b Ic Jc Ir) (hc : f35_8 N Ic Jc = some (v, I1, J1)) (hr : f243_185_j278 N' Ir Jr 1 = some (w, I2, J2)) : OUT t v w I1 I2 (AD t n (b + 1) Ic Jc Ir Jr I1 J1 I2 J2) := by
  unfold f243_185_j278 at hr
  rw [q10, cond_false] at hr
  replace hr := obI hr
  obtain ⟨x, Ia, Ja, e, hr⟩ := hr
  rcases pc_rel h hc e with ⟨rfl, rfl, hF⟩ | ⟨rfl, rfl, g⟩
  · rw [q00, cond_true] at hr
    cases hr
    exact Or.inl ⟨rfl, rfl, hF⟩
  · rw [q10, cond_false] at hr
    cases hr
    exact Or.inr ⟨rfl, rfl, g⟩
theorem f76_is {I : tI} {J : tJ} {W : Nat} (hW : W ≤ 6) (h : I 37 0 = Int32.ofNat W) : f76_35 I J = (if 0 < W then 1 else 0, I, J) := by
  unfold f76_35
  rw [h, tc_le, oi_int (by omega), show (0 : Int32).toInt = 0 from rfl]
  by_cases e : 0 < W
  · rw [decide_eq_false (by omega), cond_false, if_pos e]
  · rw [decide_eq_true (by omega), cond_true, if_neg e]
theorem ofI {x : Int32} {m : Nat} (h0 : 0 ≤ x.toInt) (h : x.toInt ≤ m) (hm : m < 1000) : ∃ k, k ≤ m ∧ x = Int32.ofNat k := ⟨x.toInt.toNat, by omega, natI h0⟩
theorem size_rel (h : R0 t n b Ic Jc Ir) (hD : RD P S B W D Ic Jc Ir Jr) (hc : f77_35 N Ic Jc = some (v, I1, J1)) (hr : f243_185_j47 N' Ir Jr 5 = some (w, I2, J2)) : PO t n b v w I1 J1 I2 J2 := by
  obtain ⟨⟨g1, g2⟩, ⟨g3, g4, g5⟩, ⟨g6, g7⟩, ⟨g8, g9⟩, g10⟩ := id hD
  have gc := g1.1
  unfold f77_35 at hc
  rw [f76_is g3.1.1 g3.2.1.1] at hc
  dsimp only at hc
  unfold f243_185_j47 at hr
  rw [show xcmp .gt (5 : Int32) 6 = false from rfl, cond_false, tb5, g4.1] at hr
  by_cases hW : 0 < W
  · rw [if_pos hW, q10, cond_false, f33_is] at hc
    rw [decide_eq_true hW, Bool.not_true, cond_false, f225_is h.2.1] at hr
    dsimp only at hc hr
    cases hc
    cases hr
    exact Or.inl ⟨rfl, rfl, RF_of h (by decide)⟩
  · rw [if_neg hW, q00, cond_true] at hc
    rw [decide_eq_false hW, Bool.not_false, cond_true] at hr
    unfold f243_185_j71 at hr
    rw [show xcmp .eq (5 : Int32) 5 = true from rfl, cond_true] at hr
    replace hc := obU hc
    obtain ⟨u1, Ia, Ja, a1, hc⟩ := hc
    replace hr := obU hr
    obtain ⟨u2, Ib, Jb, b1, hr⟩ := hr
    have hs : R0 t n b Ic Jc (tup Ir 185 20 (Ir 185 20 ||| ((1 : Int32) <<< ((5 : Int32) &&& 31)))) := R0_cg h (fun _ _ => rfl) (fun _ _ _ => rfl) rfl (fun k _ _ => tup_ne (by omega)) (fun o k ho => tup_ne (by omega))
    obtain ⟨r1, c1, j1, k1, rfl⟩ := R0_adv hs a1 b1
    obtain ⟨⟨y1, Id, Jd⟩, a2⟩ := exq (f37_8 Ia Ja 1 6)
    rw [a2] at hc
    dsimp only at hc
    replace hr := obI hr
    obtain ⟨y2, Ie, Je, b2, hr⟩ := hr
    rcases num_rel r1 a2 b2 with ⟨rfl, rfl, hF⟩ | ⟨rfl, rfl, rfl, rfl, -, l1, l2, b3⟩
    · rw [n00, cond_false] at hc
      rw [q00, cond_true] at hr
      cases hc
      cases hr
      exact Or.inl ⟨rfl, rfl, hF⟩
    rw [n10, cond_true] at hc
    rw [q10, cond_false] at hr
    obtain ⟨W', hW', eW⟩ := ofI (m := 6) (by rw [show (1 : Int32).toInt = 1 from rfl] at l1; omega) l2 (by omega)
    have hW1 : 0 < W' := by
      rw [eW, oi_int (by omega), show (1 : Int32).toInt = 1 from rfl] at l1
      omega
    replace hc := obU hc
    obtain ⟨u3, If, Jf, a3, hc⟩ := hc
    rw [show (2480 : Int32).toNatClampNeg = 2480 from rfl] at b3
    have r2 : R0 t n b Id Jd (tup Ib 186 2480 (Id 8 7)) := R0_cg r1 (fun _ _ => rfl) (fun _ _ _ => rfl) rfl (fun k _ _ => tup_ne (by omega)) (fun o k ho => tup_ne (by omega))
    obtain ⟨r3, c3, j3, k3, rfl⟩ := R0_adv r2 a3 b3
    replace hc := obI hc
    obtain ⟨y3, Ig, Jg, a4, hc⟩ := hc
    replace hr := obI hr
    obtain ⟨y4, Ih, Jh, b4, hr⟩ := hr
    rcases pw_rel (c := 1) (r := 11) r3 (fun w q => RW_iff q 11 (by decide)) a4 b4 with ⟨rfl, rfl, hF⟩ | ⟨rfl, rfl, r4, c4, j4, k4, rfl⟩
    · rw [q00, cond_true] at hc hr
      cases hc
      cases hr
      exact Or.inl ⟨rfl, rfl, hF⟩
    rw [q10, cond_false] at hc hr
    obtain ⟨⟨y5, Ii, Ji⟩, a5⟩ := exq (f37_8 Ig Jg 1 5)
    rw [a5] at hc
    dsimp only at hc
    replace hr := obI hr
    obtain ⟨y6, Ij, Jj, b5, hr⟩ := hr
    rcases num_rel r4 a5 b5 with ⟨rfl, rfl, hF⟩ | ⟨rfl, rfl, rfl, rfl, -, l3, l4, b6⟩
    · rw [n00, cond_false] at hc
      rw [q00, cond_true] at hr
      cases hc
      cases hr
      exact Or.inl ⟨rfl, rfl, hF⟩
    rw [n10, cond_true] at hc
    rw [q10, cond_false] at hr
    obtain ⟨D', hD', eD⟩ := ofI (m := 5) (by rw [show (1 : Int32).toInt = 1 from rfl] at l3; omega) l4 (by omega)
    replace hc := obU hc
    obtain ⟨u4, Ik, Jk, a6, hc⟩ := hc
    rw [show (2481 : Int32).toNatClampNeg = 2481 from rfl] at b6
    have r5 : R0 t n b (tup (tup Ii 37 0 (Id 8 7)) 37 1 (Ii 8 7)) Ji (tup Ih 186 2481 (Ii 8 7)) := R0_cg r4 (fun k _ => by rw [tup_ne (by omega), tup_ne (by omega)]) (fun o k ho => by rw [tup_ne (by omega), tup_ne (by omega)]) rfl (fun k _ _ => tup_ne (by omega)) (fun o k ho => tup_ne (by omega))
    obtain ⟨r6, c6, j6, k6, rfl⟩ := R0_adv r5 a6 b6
    replace hc := obI hc
    obtain ⟨y7, Il, Jl, a7, hc⟩ := hc
    cases hc
    rcases close_rel r6 a7 hr with ⟨rfl, rfl, hF⟩ | ⟨rfl, rfl, r7, c7, j7, k7, rfl⟩
    · exact Or.inl ⟨rfl, rfl, hF⟩
    refine Or.inr ⟨rfl, rfl, r7, P, S, B, W', D', ?_⟩
    have hC : ∀ o k, 35 ≤ o → o ≤ 59 → ¬ (o = 37 ∧ (k = 0 ∨ k = 1)) → I1 o k = Ic o k := fun o k q1 q2 q3 => by
      rw [c7 o k (by omega), c6 o k (by omega), tup_ne (by omega), tup_ne (by omega), c4 o k (by omega), c3 o k (by omega), c1 o k (by omega)]
    have hJ : ∀ o k, 35 ≤ o → o ≤ 59 → True → J1 o k = Jc o k := fun o k q1 q2 _ => by
      rw [j7 o k (by omega), j6 o k (by omega), j4 o k (by omega), j3 o k (by omega), j1 o k (by omega)]
    have hR : ∀ k, 2480 ≤ k → k < 3092 → ¬ (k = 2480 ∨ k = 2481) → I2 186 k = Ir 186 k := fun k q1 q2 q3 => by
      rw [k7 _ k (by omega), k6 _ k (by omega), tup_ne (by omega), k4 _ k (by omega), k3 _ k (by omega), tup_ne (by omega), k1 _ k (by omega), tup_ne (by omega)]
    have hT : I2 185 20 = Ir 185 20 ||| ((1 : Int32) <<< ((5 : Int32) &&& 31)) := by
      rw [k7 _ _ (by omega), k6 _ _ (by omega), tup_ne (by omega), k4 _ _ (by omega), k3 _ _ (by omega), tup_ne (by omega), k1 _ _ (by omega), tup_eq]
    have hN : ∀ k, True → J2 187 k = J2 187 k := fun _ _ => rfl
    have v0 : I1 37 0 = Int32.ofNat W' := by rw [c7 _ _ (by omega), c6 _ _ (by omega), tup_ne (by omega), tup_eq, eW]
    have v1 : I1 37 1 = Int32.ofNat D' := by rw [c7 _ _ (by omega), c6 _ _ (by omega), tup_eq, eD]
    have v2 : I2 186 2480 = Int32.ofNat W' := by rw [k7 _ _ (by omega), k6 _ _ (by omega), tup_ne (by omega), k4 _ _ (by omega), k3 _ _ (by omega), tup_eq, eW]
    have v3 : I2 186 2481 = Int32.ofNat D' := by rw [k7 _ _ (by omega), k6 _ _ (by omega), tup_eq, eD]
    exact ⟨⟨RDc_cg g1 (hC _ _ (by omega) (by omega) (by omega)) (hC _ _ (by omega) (by omega) (by omega)) (hC _ _ (by omega) (by omega) (by omega)) (fun k a b => hR k (by omega) (by omega) (by omega)),
      RDn_cg g2 (fun p hp => hJ _ _ (by omega) (by omega) trivial) (fun p hp => hJ _ _ (by omega) (by omega) trivial) (fun p hp => hJ _ _ (by omega) (by omega) trivial) (fun p hp => hN _ trivial) (fun p hp => hN _ trivial) (fun p hp => hN _ trivial)⟩,
      ⟨⟨⟨hW', hD'⟩, ⟨v0, v1, v2, v3⟩, by rw [hC _ _ (by omega) (by omega) (by omega), hR _ (by omega) (by omega) (by omega)]; exact g3.2.2.1, by rw [hC _ _ (by omega) (by omega) (by omega), hR _ (by omega) (by omega) (by omega)]; exact g3.2.2.2⟩,
      ⟨by rw [hT, show (5 : Int32) = Int32.ofNat 5 from rfl, tb_or (by omega), decide_eq_true rfl, Bool.or_true, decide_eq_true hW1], by rw [hT, show (5 : Int32) = Int32.ofNat 5 from rfl, tb_or (by omega), decide_eq_false (by omega), Bool.or_false, hC _ _ (by omega) (by omega) (by omega)]; exact g4.2⟩,
      RDw_cg g5 (hJ _ _ (by omega) (by omega) trivial) (fun k a b => hR k (by omega) (by omega) (by omega))⟩,
      ⟨(fun p hp => by
        obtain ⟨r0, c0, -, hc0, -⟩ := (g6 p hp).1
        exact absurd hc0 (by omega)),
      RDq_cg g7 (fun k a b => hR k (by omega) (by omega) (by omega))⟩,
      ⟨RDs_cg g8 (fun o p a b hp => hC _ _ (by omega) (by omega) (by omega)) (fun k a b => hR k (by omega) (by omega) (by omega)),
      RDb_cg g9 (fun p hp => hC _ _ (by omega) (by omega) (by omega)) (fun k a b => hR k (by omega) (by omega) (by omega))⟩,
      RDz_cg g10 (fun k => hC _ _ (by omega) (by omega) (by omega)) (hC _ _ (by omega) (by omega) (by omega)) (fun k => hC _ _ (by omega) (by omega) (by omega)) (fun k a b => hR k (by omega) (by omega) (by omega)) (hR _ (by omega) (by omega) (by omega)) (hR _ (by omega) (by omega) (by omega))⟩
theorem price_rel (h : R0 t n b Ic Jc Ir) (hD : RD P S B W D Ic Jc Ir Jr) (hc : f78_35 N Ic Jc = some (v, I1, J1)) (hr : f243_185_j47 N' Ir Jr 6 = some (w, I2, J2)) : PO t n b v w I1 J1 I2 J2 := by
  obtain ⟨⟨g1, g2⟩, ⟨g3, g4, g5⟩, ⟨g6, g7⟩, ⟨g8, g9⟩, g10⟩ := id hD
  have gc := g1.1
  unfold f78_35 at hc
  unfold f243_185_j47 at hr
  rw [show xcmp .gt (6 : Int32) 6 = false from rfl, cond_false, tb6, g4.2] at hr
  by_cases hp : Ic 35 2 ≠ 0
  · rw [xc_eqn hp, cond_false, f33_is] at hc
    rw [decide_eq_true hp, Bool.not_true, cond_false, f225_is h.2.1] at hr
    dsimp only at hc hr
    cases hc
    cases hr
    exact Or.inl ⟨rfl, rfl, RF_of h (by decide)⟩
  · rw [decide_eq_false hp, Bool.not_false, cond_true] at hr
    have hp0 : Ic 35 2 = 0 := Decidable.byContradiction (fun q => hp q)
    rw [xc_eq hp0, cond_true] at hc
    unfold f243_185_j71 at hr
    rw [show xcmp .eq (6 : Int32) 5 = false from rfl, cond_false, show xcmp .eq (6 : Int32) 6 = true from rfl, cond_true] at hr
    replace hc := obU hc
    obtain ⟨u1, Ia, Ja, a1, hc⟩ := hc
    replace hr := obU hr
    obtain ⟨u2, Ib, Jb, b1, hr⟩ := hr
    have hs : R0 t n b Ic Jc (tup Ir 185 20 (Ir 185 20 ||| ((1 : Int32) <<< ((6 : Int32) &&& 31)))) := R0_cg h (fun _ _ => rfl) (fun _ _ _ => rfl) rfl (fun k _ _ => tup_ne (by omega)) (fun o k ho => tup_ne (by omega))
    obtain ⟨r1, c1, j1, k1, rfl⟩ := R0_adv hs a1 b1
    obtain ⟨⟨y1, Id, Jd⟩, a2⟩ := exq (f37_8 Ia Ja 0 99)
    rw [a2] at hc
    dsimp only at hc
    replace hr := obI hr
    obtain ⟨y2, Ie, Je, b2, hr⟩ := hr
    rcases num_rel r1 a2 b2 with ⟨rfl, rfl, hF⟩ | ⟨rfl, rfl, rfl, rfl, -, l1, l2, b3⟩
    · rw [n00, cond_false] at hc
      rw [q00, cond_true] at hr
      cases hc
      cases hr
      exact Or.inl ⟨rfl, rfl, hF⟩
    rw [n10, cond_true] at hc
    rw [q10, cond_false] at hr
    replace hc := obU hc
    obtain ⟨u3, If, Jf, a3, hc⟩ := hc
    rw [show (2486 : Int32).toNatClampNeg = 2486 from rfl] at b3
    have r2 : R0 t n b (tup Id 36 4 (Id 8 7)) Jd (tup Ib 186 2486 (Id 8 7)) := R0_cg r1 (fun k _ => tup_ne (by omega)) (fun o k ho => tup_ne (by omega)) rfl (fun k _ _ => tup_ne (by omega)) (fun o k ho => tup_ne (by omega))
    obtain ⟨r3, c3, j3, k3, rfl⟩ := R0_adv r2 a3 b3
    replace hc := obI hc
    obtain ⟨y3, Ig, Jg, a4, hc⟩ := hc
    replace hr := obI hr
    obtain ⟨y4, Ih, Jh, b4, hr⟩ := hr
    rcases pw_rel (c := 3) (r := 12) r3 (fun w q => RW_iff q 12 (by decide)) a4 b4 with ⟨rfl, rfl, hF⟩ | ⟨rfl, rfl, r4, c4, j4, k4, rfl⟩
    · rw [q00, cond_true] at hc hr
      cases hc
      cases hr
      exact Or.inl ⟨rfl, rfl, hF⟩
    rw [q10, cond_false] at hc hr
    obtain ⟨⟨y5, Ii, Ji⟩, a5⟩ := exq (f37_8 Ig Jg 0 20)
    rw [a5] at hc
    dsimp only at hc
    replace hr := obI hr
    obtain ⟨y6, Ij, Jj, b5, hr⟩ := hr
    rcases num_rel r4 a5 b5 with ⟨rfl, rfl, hF⟩ | ⟨rfl, rfl, rfl, rfl, -, l3, l4, b6⟩
    · rw [n00, cond_false] at hc
      rw [q00, cond_true] at hr
      cases hc
      cases hr
      exact Or.inl ⟨rfl, rfl, hF⟩
    rw [n10, cond_true] at hc
    rw [q10, cond_false] at hr
    replace hc := obU hc
    obtain ⟨u4, Ik, Jk, a6, hc⟩ := hc
    rw [show (2487 : Int32).toNatClampNeg = 2487 from rfl] at b6
    have r5 : R0 t n b (tup (tup Ii 36 5 (Ii 8 7)) 35 2 1) Ji (tup Ih 186 2487 (Ii 8 7)) := R0_cg r4 (fun k _ => by rw [tup_ne (by omega), tup_ne (by omega)]) (fun o k ho => by rw [tup_ne (by omega), tup_ne (by omega)]) rfl (fun k _ _ => tup_ne (by omega)) (fun o k ho => tup_ne (by omega))
    obtain ⟨r6, c6, j6, k6, rfl⟩ := R0_adv r5 a6 b6
    replace hc := obI hc
    obtain ⟨y7, Il, Jl, a7, hc⟩ := hc
    cases hc
    rcases close_rel r6 a7 hr with ⟨rfl, rfl, hF⟩ | ⟨rfl, rfl, r7, c7, j7, k7, rfl⟩
    · exact Or.inl ⟨rfl, rfl, hF⟩
    refine Or.inr ⟨rfl, rfl, r7, P, S, B, W, D, ?_⟩
    have hC : ∀ o k, 35 ≤ o → o ≤ 59 → ¬ ((o = 36 ∧ (k = 4 ∨ k = 5)) ∨ (o = 35 ∧ k = 2)) → I1 o k = Ic o k := fun o k q1 q2 q3 => by
      rw [c7 o k (by omega), c6 o k (by omega), tup_ne (by omega), tup_ne (by omega), c4 o k (by omega), c3 o k (by omega), tup_ne (by omega), c1 o k (by omega)]
    have hJ : ∀ o k, 35 ≤ o → o ≤ 59 → True → J1 o k = Jc o k := fun o k q1 q2 _ => by
      rw [j7 o k (by omega), j6 o k (by omega), j4 o k (by omega), j3 o k (by omega), j1 o k (by omega)]
    have hR : ∀ k, 2480 ≤ k → k < 3092 → ¬ (k = 2486 ∨ k = 2487) → I2 186 k = Ir 186 k := fun k q1 q2 q3 => by
      rw [k7 _ k (by omega), k6 _ k (by omega), tup_ne (by omega), k4 _ k (by omega), k3 _ k (by omega), tup_ne (by omega), k1 _ k (by omega), tup_ne (by omega)]
    have hT : I2 185 20 = Ir 185 20 ||| ((1 : Int32) <<< ((6 : Int32) &&& 31)) := by
      rw [k7 _ _ (by omega), k6 _ _ (by omega), tup_ne (by omega), k4 _ _ (by omega), k3 _ _ (by omega), tup_ne (by omega), k1 _ _ (by omega), tup_eq]
    have hN : ∀ k, True → J2 187 k = J2 187 k := fun _ _ => rfl
    have v0 : I1 36 4 = Id 8 7 := by rw [c7 _ _ (by omega), c6 _ _ (by omega), tup_ne (by omega), tup_ne (by omega), c4 _ _ (by omega), c3 _ _ (by omega), tup_eq]
    have v1 : I1 36 5 = Ii 8 7 := by rw [c7 _ _ (by omega), c6 _ _ (by omega), tup_ne (by omega), tup_eq]
    have v2 : I2 186 2486 = Id 8 7 := by rw [k7 _ _ (by omega), k6 _ _ (by omega), tup_ne (by omega), k4 _ _ (by omega), k3 _ _ (by omega), tup_eq]
    have v3 : I2 186 2487 = Ii 8 7 := by rw [k7 _ _ (by omega), k6 _ _ (by omega), tup_eq]
    have v4 : I1 35 2 = 1 := by rw [c7 _ _ (by omega), c6 _ _ (by omega), tup_eq]
    exact ⟨⟨RDc_cg g1 (hC _ _ (by omega) (by omega) (by omega)) (hC _ _ (by omega) (by omega) (by omega)) (hC _ _ (by omega) (by omega) (by omega)) (fun k a b => hR k (by omega) (by omega) (by omega)),
      RDn_cg g2 (fun p hp => hJ _ _ (by omega) (by omega) trivial) (fun p hp => hJ _ _ (by omega) (by omega) trivial) (fun p hp => hJ _ _ (by omega) (by omega) trivial) (fun p hp => hN _ trivial) (fun p hp => hN _ trivial) (fun p hp => hN _ trivial)⟩,
      ⟨⟨g3.1, ⟨by rw [hC _ _ (by omega) (by omega) (by omega)]; exact g3.2.1.1, by rw [hC _ _ (by omega) (by omega) (by omega)]; exact g3.2.1.2.1, by rw [hR _ (by omega) (by omega) (by omega)]; exact g3.2.1.2.2.1, by rw [hR _ (by omega) (by omega) (by omega)]; exact g3.2.1.2.2.2⟩, by rw [v0, v2], by rw [v1, v3]⟩,
      ⟨by rw [hT, show (6 : Int32) = Int32.ofNat 6 from rfl, tb_or (by omega), decide_eq_false (by omega), Bool.or_false]; exact g4.1, by rw [hT, show (6 : Int32) = Int32.ofNat 6 from rfl, tb_or (by omega), decide_eq_true rfl, Bool.or_true, v4]; rfl⟩,
      RDw_cg g5 (hJ _ _ (by omega) (by omega) trivial) (fun k a b => hR k (by omega) (by omega) (by omega))⟩,
      ⟨RDp_cg g6 (fun o p a b hp => hC _ _ (by omega) (by omega) (by omega)) (fun k hk => hC _ _ (by omega) (by omega) (by omega)) (fun k a b => hR k (by omega) (by omega) (by omega)),
      RDq_cg g7 (fun k a b => hR k (by omega) (by omega) (by omega))⟩,
      ⟨RDs_cg g8 (fun o p a b hp => hC _ _ (by omega) (by omega) (by omega)) (fun k a b => hR k (by omega) (by omega) (by omega)),
      RDb_cg g9 (fun p hp => hC _ _ (by omega) (by omega) (by omega)) (fun k a b => hR k (by omega) (by omega) (by omega))⟩,
      RDz_cg g10 (fun k => hC _ _ (by omega) (by omega) (by omega)) (hC _ _ (by omega) (by omega) (by omega)) (fun k => hC _ _ (by omega) (by omega) (by omega)) (fun k a b => hR k (by omega) (by omega) (by omega)) (hR _ (by omega) (by omega) (by omega)) (hR _ (by omega) (by omega) (by omega))⟩
theorem wall_rel (h : R0 t n b Ic Jc Ir) (hW : 0 < W) (hD : RD P S B W D Ic Jc Ir Jr) (hc : f81_35 N Ic Jc = some (v, I1, J1)) (hr : f243_185_j71 N' Ir Jr 7 = some (w, I2, J2)) : PO t n b v w I1 J1 I2 J2 := by
  obtain ⟨⟨g1, g2⟩, ⟨g3, g4, g5⟩, ⟨g6, g7⟩, ⟨g8, g9⟩, g10⟩ := id hD
  have gc := g1.1
  have gw := g3.1
  unfold f81_35 at hc
  rw [f76_is g3.1.1 g3.2.1.1, if_pos hW] at hc
  dsimp only at hc
  rw [n10, cond_true] at hc
  unfold f243_185_j71 at hr
  rw [show xcmp .eq (7 : Int32) 5 = false from rfl, cond_false, show xcmp .eq (7 : Int32) 6 = false from rfl, cond_false, show xcmp .eq (7 : Int32) 7 = true from rfl, cond_true] at hr
  replace hc := obU hc
  obtain ⟨u1, Ia, Ja, a1, hc⟩ := hc
  replace hr := obU hr
  obtain ⟨u2, Ib, Jb, b1, hr⟩ := hr
  have hs : R0 t n b Ic Jc (tup Ir 185 20 (Ir 185 20 ||| ((1 : Int32) <<< ((7 : Int32) &&& 31)))) := R0_cg h (fun _ _ => rfl) (fun _ _ _ => rfl) rfl (fun k _ _ => tup_ne (by omega)) (fun o k ho => tup_ne (by omega))
  obtain ⟨r1, c1, j1, k1, rfl⟩ := R0_adv hs a1 b1
  have hT0 : RDt W Ic (tup Ir 185 20 (Ir 185 20 ||| ((1 : Int32) <<< ((7 : Int32) &&& 31)))) := by
    refine ⟨?_, ?_⟩
    · rw [tup_eq, show (7 : Int32) = Int32.ofNat 7 from rfl, tb_or (by omega), decide_eq_false (by omega), Bool.or_false]; exact g4.1
    · rw [tup_eq, show (7 : Int32) = Int32.ofNat 7 from rfl, tb_or (by omega), decide_eq_false (by omega), Bool.or_false]; exact g4.2
  have hD1 : RD P S B W D Ia Ja Ib Jb := by
    have hD0 : RD P S B W D Ic Jc (tup Ir 185 20 (Ir 185 20 ||| ((1 : Int32) <<< ((7 : Int32) &&& 31)))) Jb := ⟨⟨g1, g2⟩, ⟨g3, hT0, g5⟩, ⟨g6, g7⟩, ⟨g8, g9⟩, g10⟩
    exact RD_cg hD0 (fun o k q1 q2 q3 => c1 o k (by omega)) (fun o k q1 q2 => j1 o k (by omega)) (k1 _ _ (by omega)) (fun k q1 q2 => k1 _ _ (by omega)) (fun k => rfl)
  replace hc := obI hc
  obtain ⟨y1, Id, Jd, a2, hc⟩ := hc
  replace hr := obI hr
  obtain ⟨y2, Ie, Je, b2, hr⟩ := hr
  rcases fresh_rel (to := 3094) (by omega) r1 hD1 a2 b2 with ⟨rfl, rfl, hF⟩ | ⟨rfl, rfl, r, c, ⟨hr5, hc6⟩, e1, e2, r2, c2, j2, k2, rfl⟩
  · rw [n00, cond_false] at hc
    rw [q00, cond_true, j278_0] at hr
    cases hc
    cases hr
    exact Or.inl ⟨rfl, rfl, hF⟩
  rw [n10, cond_true] at hc
  rw [q10, cond_false, e2, show ((2490 : Int32) + Int32.ofNat (6 * r + c)).toNatClampNeg = 2490 + (6 * r + c) from ox (a := 2490) (by omega)] at hr
  replace hc := obI hc
  obtain ⟨y3, If, Jf, a3, hc⟩ := hc
  cases hc
  rw [e1] at a3
  have r3 : R0 t n b Id (tup Jd 37 2 (Jd 37 2 ||| ((1 : Int64) <<< ((Int32.toInt64 (Int32.ofNat (10 * r + c))) &&& 63)))) (tup Ie 186 (2490 + (6 * r + c)) 1) := R0_cg r2 (fun _ _ => rfl) (fun _ _ _ => rfl) (tup_ne (by omega)) (fun k _ _ => tup_ne (by omega)) (fun o k ho => tup_ne (by omega))
  rcases close_rel r3 a3 hr with ⟨rfl, rfl, hF⟩ | ⟨rfl, rfl, r4, c4, j4, k4, rfl⟩
  · exact Or.inl ⟨rfl, rfl, hF⟩
  refine Or.inr ⟨rfl, rfl, r4, P, S, B, W, D, ?_⟩
  obtain ⟨⟨g1, g2⟩, ⟨g3, g4, g5⟩, ⟨g6, g7⟩, ⟨g8, g9⟩, g10⟩ := hD1
  have hC : ∀ o k, 35 ≤ o → o ≤ 59 → ¬ (o = 35 ∧ k = 3) → I1 o k = Ia o k := fun o k q1 q2 q3 => by
    rw [c4 o k (by omega), c2 o k (by omega) q3]
  have hJ : ∀ o k, 35 ≤ o → o ≤ 59 → ¬ (o = 37 ∧ k = 2) → J1 o k = Ja o k := fun o k q1 q2 q3 => by
    rw [j4 o k (by omega), tup_ne q3, j2 o k (by omega)]
  have hR : ∀ k, 2480 ≤ k → k < 3092 → ¬ (k = 2490 + (6 * r + c)) → I2 186 k = Ib 186 k := fun k q1 q2 q3 => by
    rw [k4 _ k (by omega), tup_ne (by omega), k2 _ k (by omega) (by omega)]
  have hT : I2 185 20 = Ib 185 20 := by
    rw [k4 _ _ (by omega), tup_ne (by omega), k2 _ _ (by omega) (by omega)]
  have hN : ∀ k, True → J2 187 k = J2 187 k := fun _ _ => rfl
  have v0 : J1 37 2 = Ja 37 2 ||| ((1 : Int64) <<< ((Int32.toInt64 (Int32.ofNat (10 * r + c))) &&& 63)) := by rw [j4 _ _ (by omega), tup_eq, j2 _ _ (by omega)]
  have v1 : I2 186 (2490 + (6 * r + c)) = 1 := by rw [k4 _ _ (by omega), tup_eq]
  exact ⟨⟨RDc_cg g1 (hC _ _ (by omega) (by omega) (by omega)) (hC _ _ (by omega) (by omega) (by omega)) (hC _ _ (by omega) (by omega) (by omega)) (fun k a b => hR k (by omega) (by omega) (by omega)),
      RDn_cg g2 (fun p hp => hJ _ _ (by omega) (by omega) (by omega)) (fun p hp => hJ _ _ (by omega) (by omega) (by omega)) (fun p hp => hJ _ _ (by omega) (by omega) (by omega)) (fun p hp => hN _ trivial) (fun p hp => hN _ trivial) (fun p hp => hN _ trivial)⟩,
      ⟨RDg_cg g3 (hC _ _ (by omega) (by omega) (by omega)) (hC _ _ (by omega) (by omega) (by omega)) (hC _ _ (by omega) (by omega) (by omega)) (hC _ _ (by omega) (by omega) (by omega)) (hR _ (by omega) (by omega) (by omega)) (hR _ (by omega) (by omega) (by omega)) (hR _ (by omega) (by omega) (by omega)) (hR _ (by omega) (by omega) (by omega)),
      RDt_cg g4 (hC _ _ (by omega) (by omega) (by omega)) hT,
      (fun r' c' hr' hc' => by
        rw [v0, wb_or (by omega)]
        by_cases e : 10 * r + c = 10 * r' + c'
        · rw [show 6 * r' + c' = 6 * r + c by omega, v1, decide_eq_true e, Bool.or_true, if_pos rfl]
        · rw [hR _ (by omega) (by omega) (by omega), decide_eq_false e, Bool.or_false]
          exact g5 r' c' hr' hc')⟩,
      ⟨RDp_cg g6 (fun o p a b hp => hC _ _ (by omega) (by omega) (by omega)) (fun k hk => hC _ _ (by omega) (by omega) (by omega)) (fun k a b => hR k (by omega) (by omega) (by omega)),
      RDq_cg g7 (fun k a b => hR k (by omega) (by omega) (by omega))⟩,
      ⟨RDs_cg g8 (fun o p a b hp => hC _ _ (by omega) (by omega) (by omega)) (fun k a b => hR k (by omega) (by omega) (by omega)),
      RDb_cg g9 (fun p hp => hC _ _ (by omega) (by omega) (by omega)) (fun k a b => hR k (by omega) (by omega) (by omega))⟩,
      RDz_cg g10 (fun k => hC _ _ (by omega) (by omega) (by omega)) (hC _ _ (by omega) (by omega) (by omega)) (fun k => hC _ _ (by omega) (by omega) (by omega)) (fun k a b => hR k (by omega) (by omega) (by omega)) (hR _ (by omega) (by omega) (by omega)) (hR _ (by omega) (by omega) (by omega))⟩
theorem buyer_rel (h : R0 t n b Ic Jc Ir) (hD : RD P S B W D Ic Jc Ir Jr) (hc : f89_35 N Ic Jc = some (v, I1, J1)) (hr : f243_185_j71 N' Ir Jr 10 = some (w, I2, J2)) : PO t n b v w I1 J1 I2 J2 := by
  obtain ⟨⟨g1, g2⟩, ⟨g3, g4, g5⟩, ⟨g6, g7⟩, ⟨g8, g9⟩, g10⟩ := id hD
  have gc := g1.1
  unfold f89_35 at hc
  rw [g1.2.1.2.2, show xcmp .lt (Int32.ofNat B) 4 = decide (B < 4) from oi_lt (q := 4) (by omega) (by omega)] at hc
  unfold f243_185_j71 at hr
  rw [show xcmp .eq (10 : Int32) 5 = false from rfl, cond_false, show xcmp .eq (10 : Int32) 6 = false from rfl, cond_false, show xcmp .eq (10 : Int32) 7 = false from rfl, cond_false, show xcmp .eq (10 : Int32) 8 = false from rfl, cond_false, show xcmp .eq (10 : Int32) 9 = false from rfl, cond_false] at hr
  replace hr := obI hr
  obtain ⟨y0, Iz, Jz, b0, hr⟩ := hr
  generalize hI : tup Ir 185 20 (Ir 185 20 ||| ((1 : Int32) <<< ((10 : Int32) &&& 31))) = Is at b0
  have hs : R0 t n b Ic Jc Is := by
    rw [← hI]
    exact R0_cg h (fun _ _ => rfl) (fun _ _ _ => rfl) rfl (fun k _ _ => tup_ne (by omega)) (fun o k ho => tup_ne (by omega))
  have hD1 : RD P S B W D Ic Jc Is Jr := by
    rw [← hI]
    refine ⟨⟨g1, g2⟩, ⟨g3, ⟨?_, ?_⟩, g5⟩, ⟨g6, g7⟩, ⟨g8, g9⟩, g10⟩
    · rw [tup_eq, show (10 : Int32) = Int32.ofNat 10 from rfl, tb_or (by omega), decide_eq_false (by omega), Bool.or_false]; exact g4.1
    · rw [tup_eq, show (10 : Int32) = Int32.ofNat 10 from rfl, tb_or (by omega), decide_eq_false (by omega), Bool.or_false]; exact g4.2
  clear g1 g2 g3 g4 g5 g6 g7 g8 g9 g10
  obtain ⟨⟨g1, g2⟩, ⟨g3, g4, g5⟩, ⟨g6, g7⟩, ⟨g8, g9⟩, g10⟩ := id hD1
  have e4 : Is 186 2484 = Int32.ofNat B := g1.2.2.2.2
  unfold f242_185 at b0
  replace b0 := obI b0
  obtain ⟨y1, Ib, Jb, b1, b0⟩ := b0
  by_cases h4 : B < 4
  · rw [decide_eq_true h4, cond_true] at hc
    replace hc := obU hc
    obtain ⟨u1, Ia, Ja, a1, hc⟩ := hc
    replace hc := obI hc
    obtain ⟨y2, Id, Jd, a2, hc⟩ := hc
    rcases new_rel (a0 := 4) (a1 := 4) (a2 := 11) (m := B) (ka := 2484) (kn := 71 + B) (by decide) (by omega) e4 (fun q => by
        have := oi_inj (b := 4) (by omega) (by omega) q
        omega) (by rw [show (60 : Int32) + 11 = Int32.ofNat 71 by decide]; exact ox (by omega)) hs hD1 a1 a2 b1 with ⟨rfl, rfl, hF⟩ | ⟨rfl, rfl, rfl, rfl, c1, j1, Ig, x, r1, k1, hx, b2⟩
    · rw [n00, cond_false] at hc b0
      cases hc
      cases b0
      rw [j278_0] at hr
      cases hr
      exact Or.inl ⟨rfl, rfl, hF⟩
    rw [n10, cond_true] at hc b0
    replace hc := obU hc
    obtain ⟨u3, Ie, Je, a3, hc⟩ := hc
    have eB : Id 36 6 = Int32.ofNat B := by rw [c1 _ _ (by omega)]; exact g1.2.1.2.2
    rw [eB, oi_nat (by omega)] at a3 hc
    rw [e4, show ((2608 : Int32) + Int32.ofNat B).toNatClampNeg = 2608 + B from ox (a := 2608) (by omega)] at b0
    have r2 : R0 t n b (tup Id 58 B 100) (tup Jd 57 B (Jd 8 6)) Ig := R0_cg r1 (fun k _ => tup_ne (by omega)) (fun o k ho => tup_ne (by omega)) (tup_ne (by omega)) (fun _ _ _ => rfl) (fun _ _ _ => rfl)
    obtain ⟨r3, c3, j3, k3, rfl⟩ := R0_adv r2 a3 b2
    replace b0 := obI b0
    obtain ⟨y4, If, Jf, b4, b0⟩ := b0
    have r4 : R0 t n b Ie Je (tup Ib 186 (2608 + B) 100) := R0_cg r3 (fun _ _ => rfl) (fun _ _ _ => rfl) rfl (fun k _ _ => tup_ne (by omega)) (fun o k ho => tup_ne (by omega))
    -- what stands behind both ways
    have fin : ∀ {Ik Il : tI} {Jk : tJ} {z : Int32}, R0 t n b Ik Jk Il → (∀ o k, 35 ≤ o → o ≤ 59 → ¬ (o = 58 ∧ k = B) → Ik o k = Ic o k) → Ik 58 B = z → (∀ o k, 35 ≤ o → o ≤ 59 → ¬ (o = 57 ∧ k = B) → Jk o k = Jc o k) → RN (Jk 57 B) x → (∀ k, 2480 ≤ k → k < 3092 → ¬ (k = 2608 + B) → Il 186 k = Is 186 k) → Il 186 (2608 + B) = z → Il 185 20 = Is 185 20 → f89_35_j137 N Ik Jk = some (v, I1, J1) → f242_185_j57 N' Il (tup Jr 187 (71 + B) x) = some (y0, Iz, Jz) → PO t n b v w I1 J1 I2 J2 := fun {Ik Il Jk z} rr hC0 vz hJ0 hxx hR0' vz' hT0 hc' hr' => by
      unfold f89_35_j137 at hc'
      unfold f242_185_j57 at hr'
      replace hc' := obI hc'
      obtain ⟨y7, Im, Jm, a7, hc'⟩ := hc'
      cases hc'
      cases hr'
      have eB2 : Ik 36 6 + 1 = Int32.ofNat (B + 1) := by rw [hC0 _ _ (by omega) (by omega) (by omega), g1.2.1.2.2, oi_suc (by omega)]
      have eB3 : Il 186 2484 + 1 = Int32.ofNat (B + 1) := by rw [hR0' _ (by omega) (by omega) (by omega), e4, oi_suc (by omega)]
      rw [eB2] at a7
      rw [eB3] at hr
      have r5 : R0 t n b (tup Ik 36 6 (Int32.ofNat (B + 1))) Jk (tup Il 186 2484 (Int32.ofNat (B + 1))) := R0_cg rr (fun k _ => tup_ne (by omega)) (fun o k ho => tup_ne (by omega)) rfl (fun k _ _ => tup_ne (by omega)) (fun o k ho => tup_ne (by omega))
      rcases close_rel r5 a7 hr with ⟨rfl, rfl, hF⟩ | ⟨rfl, rfl, r6, c6, j6, k6, rfl⟩
      · exact Or.inl ⟨rfl, rfl, hF⟩
      refine Or.inr ⟨rfl, rfl, r6, P, S, B + 1, W, D, ?_⟩
      have hC : ∀ o k, 35 ≤ o → o ≤ 59 → ¬ ((o = 58 ∧ k = B) ∨ (o = 36 ∧ k = 6)) → I1 o k = Ic o k := fun o k q1 q2 q3 => by
        rw [c6 o k (by omega), tup_ne (by omega), hC0 o k q1 q2 (by omega)]
      have hJ : ∀ o k, 35 ≤ o → o ≤ 59 → ¬ (o = 57 ∧ k = B) → J1 o k = Jc o k := fun o k q1 q2 q3 => by
        rw [j6 o k (by omega), hJ0 o k q1 q2 q3]
      have hR : ∀ k, 2480 ≤ k → k < 3092 → ¬ (k = 2608 + B ∨ k = 2484) → I2 186 k = Is 186 k := fun k q1 q2 q3 => by
        rw [k6 _ k (by omega), tup_ne (by omega), hR0' k q1 q2 (by omega)]
      have hT : I2 185 20 = Is 185 20 := by
        rw [k6 _ _ (by omega), tup_ne (by omega), hT0]
      have hN : ∀ k, ¬ (k = 71 + B) → (tup Jr 187 (71 + B) x) 187 k = Jr 187 k := fun k q => tup_ne (by omega)
      have v0 : I1 36 6 = Int32.ofNat (B + 1) := by rw [c6 _ _ (by omega), tup_eq]
      have v1 : I2 186 2484 = Int32.ofNat (B + 1) := by rw [k6 _ _ (by omega), tup_eq]
      have v2 : I1 58 B = I2 186 (2608 + B) := by rw [c6 _ _ (by omega), tup_ne (by omega), k6 _ _ (by omega), tup_ne (by omega), vz, vz']
      have v3 : J1 57 B = Jk 57 B := j6 _ _ (by omega)
      exact ⟨⟨⟨⟨gc.1, gc.2.1, by omega⟩, ⟨by rw [hC _ _ (by omega) (by omega) (by omega)]; exact g1.2.1.1, by rw [hC _ _ (by omega) (by omega) (by omega)]; exact g1.2.1.2.1, v0⟩, by rw [hR _ (by omega) (by omega) (by omega)]; exact g1.2.2.1, by rw [hR _ (by omega) (by omega) (by omega)]; exact g1.2.2.2.1, v1⟩,
      ⟨fun p hp => by rw [hJ _ _ (by omega) (by omega) (by omega), hN _ (by omega)]; exact g2.1 p hp, fun p hp => by rw [hJ _ _ (by omega) (by omega) (by omega), hN _ (by omega)]; exact g2.2.1 p hp, fun b hb => by
        by_cases e : b = B
        · rw [e, v3, tup_eq]
          exact hxx
        · rw [hJ _ _ (by omega) (by omega) (by omega), hN _ (by omega)]
          exact g2.2.2 b (by omega)⟩⟩,
      ⟨RDg_cg g3 (hC _ _ (by omega) (by omega) (by omega)) (hC _ _ (by omega) (by omega) (by omega)) (hC _ _ (by omega) (by omega) (by omega)) (hC _ _ (by omega) (by omega) (by omega)) (hR _ (by omega) (by omega) (by omega)) (hR _ (by omega) (by omega) (by omega)) (hR _ (by omega) (by omega) (by omega)) (hR _ (by omega) (by omega) (by omega)),
      RDt_cg g4 (hC _ _ (by omega) (by omega) (by omega)) hT,
      RDw_cg g5 (hJ _ _ (by omega) (by omega) (by omega)) (fun k a b => hR k (by omega) (by omega) (by omega))⟩,
      ⟨RDp_cg g6 (fun o p a b hp => hC _ _ (by omega) (by omega) (by omega)) (fun k hk => hC _ _ (by omega) (by omega) (by omega)) (fun k a b => hR k (by omega) (by omega) (by omega)),
      RDq_cg g7 (fun k a b => hR k (by omega) (by omega) (by omega))⟩,
      ⟨RDs_cg g8 (fun o p a b hp => hC _ _ (by omega) (by omega) (by omega)) (fun k a b => hR k (by omega) (by omega) (by omega)),
      (fun b hb => by
        by_cases e : b = B
        · rw [e]
          exact v2
        · rw [hC _ _ (by omega) (by omega) (by omega), hR _ (by omega) (by omega) (by omega)]
          exact g9 b (by omega))⟩,
      RDz_cg g10 (fun k => hC _ _ (by omega) (by omega) (by omega)) (hC _ _ (by omega) (by omega) (by omega)) (fun k => hC _ _ (by omega) (by omega) (by omega)) (fun k a b => hR k (by omega) (by omega) (by omega)) (hR _ (by omega) (by omega) (by omega)) (hR _ (by omega) (by omega) (by omega))⟩
    have hCa : ∀ o k, 35 ≤ o → o ≤ 59 → ¬ (o = 58 ∧ k = B) → Ie o k = Ic o k := fun o k q1 q2 q3 => by rw [c3 o k (by omega), tup_ne q3, c1 o k (by omega)]
    have hJa : ∀ o k, 35 ≤ o → o ≤ 59 → ¬ (o = 57 ∧ k = B) → Je o k = Jc o k := fun o k q1 q2 q3 => by rw [j3 o k (by omega), tup_ne q3, j1 o k (by omega)]
    have hxa : RN (Je 57 B) x := by rw [j3 _ _ (by omega), tup_eq]; exact hx
    have hRa : ∀ k, 2480 ≤ k → k < 3092 → ¬ (k = 2608 + B) → (tup Ib 186 (2608 + B) 100) 186 k = Is 186 k := fun k q1 q2 q3 => by rw [tup_ne (by omega), k3 _ k (by omega), k1 _ k (by omega)]
    have hTa : (tup Ib 186 (2608 + B) 100) 185 20 = Is 185 20 := by rw [tup_ne (by omega), k3 _ _ (by omega), k1 _ _ (by omega)]
    obtain ⟨ww, hRW, g⟩ := is_rel r4 b4
    have hw : ww = 20 ↔ Ie 8 5 = 15 := RW_iff hRW 20 (by decide)
    rcases g with ⟨q, rfl, b5⟩ | ⟨q, rfl, rfl, rfl⟩
    · rw [xc_nen (hw.mp q), cond_false] at hc
      rw [q10, cond_false] at b0
      replace hc := obU hc
      obtain ⟨u5, Ih, Jh, a5, hc⟩ := hc
      obtain ⟨r5, c5, j5, k5, rfl⟩ := R0_adv r4 a5 b5
      obtain ⟨⟨y6, Ii, Ji⟩, a6⟩ := exq (f37_8 Ih Jh 0 9999)
      rw [a6] at hc
      dsimp only at hc
      replace b0 := obI b0
      obtain ⟨y7, Ij, Jj, b6, b0⟩ := b0
      rw [show (2608 : Int32) + Int32.ofNat B = Int32.ofNat (2608 + B) from oi_add] at b6
      rcases num_rel r5 a6 b6 with ⟨rfl, rfl, hF⟩ | ⟨rfl, rfl, rfl, rfl, -, l1, l2, b7⟩
      · rw [n00, cond_false] at hc b0
        cases hc
        cases b0
        rw [j278_0] at hr
        cases hr
        exact Or.inl ⟨rfl, rfl, hF⟩
      rw [n10, cond_true] at hc b0
      rw [oi_nat (by omega)] at b7
      replace hc := obU hc
      obtain ⟨u6, Ik, Jk, a7, hc⟩ := hc
      have r6 : R0 t n b (tup Ii 58 B (Ii 8 7)) Ji (tup If 186 (2608 + B) (Ii 8 7)) := R0_cg r5 (fun k _ => tup_ne (by omega)) (fun o k ho => tup_ne (by omega)) rfl (fun k _ _ => tup_ne (by omega)) (fun o k ho => tup_ne (by omega))
      obtain ⟨r7, c7, j7, k7, rfl⟩ := R0_adv r6 a7 b7
      exact fin (z := Ii 8 7) r7 (fun o k q1 q2 q3 => by rw [c7 o k (by omega), tup_ne q3, c5 o k (by omega), hCa o k q1 q2 q3]) (by rw [c7 _ _ (by omega), tup_eq]) (fun o k q1 q2 q3 => by rw [j7 o k (by omega), j5 o k (by omega), hJa o k q1 q2 q3]) (by rw [j7 _ _ (by omega), j5 _ _ (by omega)]; exact hxa) (fun k q1 q2 q3 => by rw [k7 _ k (by omega), tup_ne (by omega), k5 _ k (by omega), hRa k q1 q2 q3]) (by rw [k7 _ _ (by omega), tup_eq]) (by rw [k7 _ _ (by omega), tup_ne (by omega), k5 _ _ (by omega), hTa]) hc b0
    · rw [xc_ne (fun q' => q (hw.mpr q')), cond_true] at hc
      rw [q00, cond_true] at b0
      exact fin (z := 100) r4 hCa (by rw [c3 _ _ (by omega), tup_eq]) hJa hxa hRa tup_eq hTa hc b0
  · rw [decide_eq_false h4, cond_false, f33_is] at hc
    dsimp only at hc
    cases hc
    have e0 : B = 4 := by omega
    unfold f236_185 at b1
    rw [show ((2480 : Int32) + 4).toNatClampNeg = 2484 from rfl, e4, e0, xc_nen (show Int32.ofNat 4 = 4 from rfl), cond_false, f225_is hs.2.1] at b1
    dsimp only at b1
    cases b1
    rw [n00, cond_false] at b0
    cases b0
    rw [j278_0] at hr
    cases hr
    exact Or.inl ⟨rfl, rfl, RF_of hs (by decide)⟩
end PF
