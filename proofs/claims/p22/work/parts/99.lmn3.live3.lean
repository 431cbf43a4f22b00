/-! TESTS, DOES, ENDS -/
/-- the counts of the loops that are open at pos -/
def LA (E pos : Nat) (Ic Ir : tI) : Prop := ∀ o e, o < pos → pos ≤ e → e < E → Ic 27 o = 5 → Ic 30 o = Int32.ofNat e → ∃ l, l ≤ 98 ∧ Ic 92 o = Int32.ofNat (l + 1) ∧ Ir 200 o = Int32.ofNat l
section LV3
variable {N N' P S B W D E s s' a a' d d' pos : Nat} {Ic Ir I1 I2 I3 I : tI} {Jc Jr J1 J2 J : tJ} {u u' : Unit} {v w : Int32}
theorem st_at {p j : Nat} {x : Int32} (hp : p < 100) (hx : x = Int32.ofNat j) (hj : j < 10) : (Int32.ofNat (252 + 6 * p) + x).toNatClampNeg = 252 + 6 * p + j := by
  rw [hx, oi_add, oi_nat (by omega)]
theorem st_0 {p : Nat} : (252 : Int32) + 6 * Int32.ofNat p = Int32.ofNat (252 + 6 * p) := by
  rw [show (6 : Int32) * Int32.ofNat p = Int32.ofNat (6 * p) from oi_mul (a := 6)]
  exact oi_add (a := 252)
theorem so_rel (hW : WPQ P S B W D s Ic Jc Ir Jr) (hp : pos < 60) (hk : (6 : Int) ≤ (Ic 27 pos).toInt ∧ (Ic 27 pos).toInt ≤ 10) (hR : RRw P S B (Ic 27 pos) (Ic 28 pos) (Ic 29 pos) (Ir 186 (252 + 6 * pos)) (Ir 186 (252 + 6 * pos + 1)) (Ir 186 (252 + 6 * pos + 2)) (Ir 186 (252 + 6 * pos + 5))) (hc : f65_10 N Ic Jc (Int32.ofNat pos) = some (v, I1, J1)) (hr : f343_185 N' Ir Jr (Int32.ofNat (252 + 6 * pos)) = some (w, I2, J2)) : v = w ∧ (I1 = Ic ∧ J1 = Jc) ∧ I2 = Ir ∧ J2 = Jr := by
  obtain ⟨⟨⟨⟨g1, g2, g3⟩, -, g6⟩, -⟩, -⟩ := id hW
  have p1 : (Int32.ofNat (252 + 6 * pos) + 1).toNatClampNeg = 252 + 6 * pos + 1 := st_at (j := 1) (by omega) rfl (by omega)
  have p2 : (Int32.ofNat (252 + 6 * pos) + 2).toNatClampNeg = 252 + 6 * pos + 2 := st_at (j := 2) (by omega) rfl (by omega)
  have p5 : (Int32.ofNat (252 + 6 * pos) + 5).toNatClampNeg = 252 + 6 * pos + 5 := st_at (j := 5) (by omega) rfl (by omega)
  unfold f65_10 at hc
  unfold f343_185 at hr
  rw [oi_nat (p := pos) (by omega)] at hc
  rw [p1, p2, p5, oi_nat (p := 252 + 6 * pos) (by omega)] at hr
  unfold RRw at hR
  generalize hkc : Ic 27 pos = kc at hc hR hk
  generalize hoc : Ic 28 pos = oc at hc hR
  generalize htc : Ic 29 pos = tc at hc hR
  generalize hk0 : Ir 186 (252 + 6 * pos) = k0 at hr hR
  generalize hk1 : Ir 186 (252 + 6 * pos + 1) = k1 at hr hR
  generalize hk2 : Ir 186 (252 + 6 * pos + 2) = k2 at hr hR
  generalize hk5 : Ir 186 (252 + 6 * pos + 5) = k5 at hr hR
  rcases hR with ⟨rfl, -⟩ | ⟨rfl, -⟩ | ⟨rfl, -⟩ | ⟨rfl, -⟩ | ⟨rfl, -⟩ | ⟨rfl, -⟩ | ⟨rfl, rfl, x, hx, rfl, rfl⟩ | ⟨rfl, rfl, x, hx, rfl, rfl⟩ | ⟨hk3, rfl, ⟨x, hx, rfl, rfl⟩, rfl⟩ | ⟨rfl, -⟩
  · exact absurd hk.1 (by decide)
  · exact absurd hk.1 (by decide)
  · exact absurd hk.1 (by decide)
  · exact absurd hk.1 (by decide)
  · exact absurd hk.1 (by decide)
  · exact absurd hk.1 (by decide)
  · -- shows
    rw [show xcmp .eq (6 : Int32) 6 = true from rfl, cond_true] at hc
    rw [show xcmp .eq ((2529 : Int32) - 2500) 20 = false from rfl, cond_false, show xcmp .ne ((2529 : Int32) - 2500) 29 = false from rfl, cond_false] at hr
    obtain ⟨v1, Ia, Ja, e1, hc⟩ := obI hc
    obtain ⟨v2, Ib, Jb, e2, hr⟩ := obI hr
    cases hc
    cases hr
    obtain ⟨q1, -, q2, q3⟩ := show_12 (WPQ_FR hW) hW.2.2.2.1 g2 hx e1 e2
    exact ⟨q1, q2, q3⟩
  · -- there
    rw [show xcmp .eq (7 : Int32) 6 = false from rfl, cond_false, show xcmp .eq (7 : Int32) 7 = true from rfl, cond_true, f12_12_is (by omega)] at hc
    rw [show xcmp .eq ((2530 : Int32) - 2500) 20 = false from rfl, cond_false, show xcmp .ne ((2530 : Int32) - 2500) 29 = true from rfl, cond_true, f261_is (by omega)] at hr
    dsimp only at hc hr
    obtain ⟨-, -, -, f5, r2, c2, q1, q2, q3, q4⟩ := hW.2.2.1 x hx
    have q1' : Ic 20 x = Int32.ofNat (10 * r2 + c2) := q3
    have h1 : Ic 19 x = 1 ↔ Ir 186 (40 + 14 * x + 4) = 1 := by
      have := STp_1 f5
      rw [show 0 + 40 + 14 * x + 4 = 40 + 14 * x + 4 by omega] at this
      exact this
    have bw : W ≤ 6 ∧ D ≤ 5 := hW.1.1.2.1
    by_cases z : Ic 19 x = 1
    · rw [if_pos z, q1', xc_eqn (oi_m1 (by omega)), cond_false] at hc
      rw [if_pos (h1.mp z)] at hr
      cases hc
      cases hr
      exact ⟨rfl, ⟨rfl, rfl⟩, rfl, rfl⟩
    · rw [if_neg z, show xcmp .eq (-1 : Int32) (-1) = true from rfl, cond_true] at hc
      rw [if_neg (fun q => z (h1.mpr q))] at hr
      cases hc
      cases hr
      exact ⟨rfl, ⟨rfl, rfl⟩, rfl, rfl⟩
  · -- coins
    have hbx := WPQ_x hW hx
    rw [show (128 : Int32) + Int32.ofNat x = Int32.ofNat (128 + x) from oi_add (a := 128), oi_nat (p := 128 + x) (by omega), ← hbx, show xcmp .eq ((2520 : Int32) - 2500) 20 = true from rfl, cond_true] at hr
    rw [oi_nat (p := x) (by omega)] at hc
    rcases hk3 with ⟨rfl, rfl⟩ | ⟨rfl, rfl⟩ | ⟨rfl, rfl⟩
    · rw [show xcmp .eq (8 : Int32) 6 = false from rfl, cond_false, show xcmp .eq (8 : Int32) 7 = false from rfl, cond_false, show xcmp .eq (8 : Int32) 8 = true from rfl, cond_true] at hc
      rw [show xcmp .ne (60 : Int32) 60 = false from rfl, cond_false] at hr
      rcases bsp hc with ⟨t, hc⟩ | ⟨t, hc⟩
      · rw [t, cond_true] at hr
        cases hc
        cases hr
        exact ⟨rfl, ⟨rfl, rfl⟩, rfl, rfl⟩
      · rw [t, cond_false] at hr
        cases hc
        cases hr
        exact ⟨rfl, ⟨rfl, rfl⟩, rfl, rfl⟩
    · rw [show xcmp .eq (9 : Int32) 6 = false from rfl, cond_false, show xcmp .eq (9 : Int32) 7 = false from rfl, cond_false, show xcmp .eq (9 : Int32) 8 = false from rfl, cond_false, show xcmp .eq (9 : Int32) 9 = true from rfl, cond_true] at hc
      rw [show xcmp .ne (62 : Int32) 60 = true from rfl, cond_true, show xcmp .ne (62 : Int32) 62 = false from rfl, cond_false] at hr
      rcases bsp hc with ⟨t, hc⟩ | ⟨t, hc⟩
      · rw [t, cond_true] at hr
        cases hc
        cases hr
        exact ⟨rfl, ⟨rfl, rfl⟩, rfl, rfl⟩
      · rw [t, cond_false] at hr
        cases hc
        cases hr
        exact ⟨rfl, ⟨rfl, rfl⟩, rfl, rfl⟩
    · rw [show xcmp .eq (10 : Int32) 6 = false from rfl, cond_false, show xcmp .eq (10 : Int32) 7 = false from rfl, cond_false, show xcmp .eq (10 : Int32) 8 = false from rfl, cond_false, show xcmp .eq (10 : Int32) 9 = false from rfl, cond_false] at hc
      rw [show xcmp .ne (61 : Int32) 60 = true from rfl, cond_true, show xcmp .ne (61 : Int32) 62 = true from rfl, cond_true] at hr
      rcases bsp hc with ⟨t, hc⟩ | ⟨t, hc⟩
      · rw [t, cond_true] at hr
        cases hc
        cases hr
        exact ⟨rfl, ⟨rfl, rfl⟩, rfl, rfl⟩
      · rw [t, cond_false] at hr
        cases hc
        cases hr
        exact ⟨rfl, ⟨rfl, rfl⟩, rfl, rfl⟩
  · exact absurd hk.2 (by decide)
theorem LB_row (h : LB P S B W D E s a d Ic Jc Ir Jr) (hp : pos < E) : pos < 60 ∧ RRw P S B (Ic 27 pos) (Ic 28 pos) (Ic 29 pos) (Ir 186 (252 + 6 * pos)) (Ir 186 (252 + 6 * pos + 1)) (Ir 186 (252 + 6 * pos + 2)) (Ir 186 (252 + 6 * pos + 5)) ∧ RMt 26 0 E Ic Ir pos := by
  obtain ⟨-, ⟨hE, h2, h3, h4, h5⟩, -⟩ := h
  obtain ⟨q1, q2⟩ := h4 pos hp
  rw [show 0 + 252 + 6 * pos = 252 + 6 * pos by omega] at q1
  exact ⟨by omega, q1, q2⟩
/-- what is done, both ways -/
theorem does_rel (h : LB P S B W D E s a d Ic Jc Ir Jr) (hp : pos < E) (hk : (Ic 27 pos).toInt ≤ 3) (hc : f64_67_10 N Ic Jc (Int32.ofNat pos) = some (v, I1, J1)) (hr : f342_185 N' Ir Jr (Int32.ofNat (252 + 6 * pos)) = some (w, I2, J2)) : (v = Int32.ofNat (pos + 1) ∧ (Ir 186 (252 + 6 * pos)).toInt < 26) ∧ (w = 0 ∨ w = 1) ∧ (∃ s' d', LB P S B W D E s' a d' I1 Jc (tup I2 201 0 (Ir 201 0 + (if w = 0 then 1 else 0))) Jr) ∧ (J1 = Jc ∧ J2 = Jr) ∧ cG Ic I1 ∧ rG Ir I2 := by
  obtain ⟨hp6, hR, -⟩ := LB_row h hp
  have p1 : (Int32.ofNat (252 + 6 * pos) + 1).toNatClampNeg = 252 + 6 * pos + 1 := st_at (j := 1) (by omega) rfl (by omega)
  have p2 : (Int32.ofNat (252 + 6 * pos) + 2).toNatClampNeg = 252 + 6 * pos + 2 := st_at (j := 2) (by omega) rfl (by omega)
  unfold f64_67_10 at hc
  unfold f342_185 at hr
  rw [oi_nat (p := pos) (by omega), oi_suc (by omega)] at hc
  rw [p1, p2, oi_nat (p := 252 + 6 * pos) (by omega)] at hr
  unfold RRw at hR
  generalize hkc : Ic 27 pos = kc at hc hR hk
  generalize hoc : Ic 28 pos = oc at hc hR
  generalize htc : Ic 29 pos = tc at hc hR
  generalize hk0 : Ir 186 (252 + 6 * pos) = k0 at hr hR
  generalize hk1 : Ir 186 (252 + 6 * pos + 1) = k1 at hr hR
  generalize hk2 : Ir 186 (252 + 6 * pos + 2) = k2 at hr hR
  generalize hk5 : Ir 186 (252 + 6 * pos + 5) = k5 at hR
  rcases hR with ⟨rfl, rfl, ⟨x, hx, rfl, rfl⟩, n, n1, n2, rfl, rfl⟩ | ⟨rfl, rfl, n, n1, n2, rfl, rfl⟩ | ⟨rfl, rfl, ⟨x, hx, rfl, rfl⟩, y, hy, rfl, rfl⟩ | ⟨rfl, rfl⟩ | ⟨rfl, -⟩ | ⟨rfl, -⟩ | ⟨rfl, -⟩ | ⟨rfl, -⟩ | ⟨hk3, -⟩ | ⟨rfl, -⟩
  · rw [show xcmp .eq (0 : Int32) 0 = true from rfl, cond_true] at hc
    rw [show xcmp .eq (21 : Int32) 21 = true from rfl, cond_true] at hr
    obtain ⟨_, Ia, Ja, e1, hc⟩ := obU hc
    obtain ⟨v2, Ib, Jb, e2, hr⟩ := obI hr
    cases hc
    cases hr
    obtain ⟨q1, ⟨s1, q2⟩, q3, q4⟩ := buyAll_rel h hx (by omega) e1 e2
    exact ⟨⟨rfl, by decide⟩, q1, ⟨s1, d, q2⟩, q3, q4⟩
  · rw [show xcmp .eq (1 : Int32) 0 = false from rfl, cond_false, show xcmp .eq (1 : Int32) 1 = true from rfl, cond_true] at hc
    rw [show xcmp .eq (22 : Int32) 21 = false from rfl, cond_false, show xcmp .eq (22 : Int32) 22 = true from rfl, cond_true] at hr
    obtain ⟨_, Ia, Ja, e1, hc⟩ := obU hc
    obtain ⟨v2, Ib, Jb, e2, hr⟩ := obI hr
    cases hc
    cases hr
    obtain ⟨q1, ⟨s1, q2⟩, q3, q4⟩ := skipAll_rel h (by omega) e1 e2
    exact ⟨⟨rfl, by decide⟩, q1, ⟨s1, d, q2⟩, q3, q4⟩
  · rw [show xcmp .eq (2 : Int32) 0 = false from rfl, cond_false, show xcmp .eq (2 : Int32) 1 = false from rfl, cond_false, show xcmp .eq (2 : Int32) 2 = true from rfl, cond_true] at hc
    rw [show xcmp .eq (23 : Int32) 21 = false from rfl, cond_false, show xcmp .eq (23 : Int32) 22 = false from rfl, cond_false, show xcmp .eq (23 : Int32) 23 = true from rfl, cond_true] at hr
    obtain ⟨_, Ia, Ja, e1, hc⟩ := obU hc
    obtain ⟨v2, Ib, Jb, e2, hr⟩ := obI hr
    cases hc
    cases hr
    obtain ⟨q1, ⟨s1, q2⟩, q3, q4⟩ := handOn_rel h hx hy e1 e2
    exact ⟨⟨rfl, by decide⟩, q1, ⟨s1, d, q2⟩, q3, q4⟩
  · obtain ⟨hW, hR, ⟨ha, hd⟩, ⟨t0, t0'⟩, ⟨t1, t2, t3, t4⟩, ⟨t5, t5'⟩, ⟨t7, t7'⟩, hf, hr0⟩ := id h
    obtain ⟨⟨⟨⟨g1, g2, g3⟩, -, g6⟩, ⟨-, -, -, a4, -, a6⟩, ⟨-, -, -, -, b5, b6⟩, b7, b8⟩, -⟩ := id hW
    have a6' : Ic 10 6 = Int32.ofNat B := a6
    have b5' : Ir 186 4 = Int32.ofNat B := b5
    rw [show xcmp .eq (3 : Int32) 0 = false from rfl, cond_false, show xcmp .eq (3 : Int32) 1 = false from rfl, cond_false, show xcmp .eq (3 : Int32) 2 = false from rfl, cond_false, show xcmp .eq (3 : Int32) 3 = true from rfl, cond_true, a6'] at hc
    rw [show xcmp .eq (24 : Int32) 21 = false from rfl, cond_false, show xcmp .eq (24 : Int32) 22 = false from rfl, cond_false, show xcmp .eq (24 : Int32) 23 = false from rfl, cond_false, show xcmp .eq (24 : Int32) 24 = true from rfl, cond_true, b5', tc_le, oi_int (by omega), show (0 : Int32).toInt = 0 from rfl] at hr
    by_cases hB : 0 < B
    · rw [decide_eq_false (by omega), cond_false, draw_r hd t7' hB g3] at hr
      rw [draw_c hd t7 hB g3] at hc
      dsimp only at hc hr
      obtain ⟨_, Ia, Ja, e1, hc⟩ := obU hc
      obtain ⟨v2, Ib, Jb, e2, hr⟩ := obI hr
      have h2 : LB P S B W D E s a (nxD d) (tup Ic 67 7 (Int32.ofNat (nxD d))) Jc (tup Ir 185 30 (Int32.ofNat (nxD d))) Jr := by
        refine LB_mk h (WPQ_67 hW (fun o k q1 q2 => tup_ne (by omega)) (fun k => tup_ne (by omega))) cG_67 (fun o k q1 q2 q3 => tup_ne (by omega)) ⟨ha, nxD_lt⟩ ⟨?_, ?_⟩ ⟨?_, ?_, ?_, ?_⟩ ⟨?_, ?_⟩ ⟨tup_eq, tup_eq⟩
        · rw [tup_ne (by omega)]; exact t0
        · rw [tup_ne (by omega)]; exact t0'
        · rw [tup_ne (by omega), tup_ne (by omega)]; exact t1
        · rw [tup_ne (by omega), tup_ne (by omega)]; exact t2
        · rw [tup_ne (by omega), tup_ne (by omega)]; exact t3
        · rw [tup_ne (by omega), tup_ne (by omega)]; exact t4
        · rw [tup_ne (by omega)]; exact t5
        · rw [tup_ne (by omega)]; exact t5'
      obtain ⟨q1, ⟨s1, q2⟩, ⟨q3, q3'⟩, q4, q5⟩ := buyAll_rel h2 (x := nxD d / 8 % B) (n := 1) (Nat.mod_lt _ hB) (by omega) e1 e2
      cases hc
      have hr' : w = v2 ∧ I2 = Ib ∧ J2 = Jb := by
        rcases q1 with rfl | rfl
        · rw [show xcmp .eq (0 : Int32) 0 = true from rfl, cond_true] at hr
          cases hr
          exact ⟨rfl, rfl, rfl⟩
        · rw [show xcmp .eq (1 : Int32) 0 = false from rfl, cond_false] at hr
          cases hr
          exact ⟨rfl, rfl, rfl⟩
      obtain ⟨rfl, rfl, rfl⟩ := hr'
      rw [tup_ne (by omega)] at q2
      exact ⟨⟨rfl, by decide⟩, q1, ⟨s1, nxD d, q2⟩, ⟨q3, q3'⟩, cG_tr cG_67 q4, rG_tr (fun o k q1 q2 q3 => tup_ne (by omega)) q5⟩
    · rw [decide_eq_true (by omega), cond_true] at hr
      unfold f69_67 f66_67_10 at hc
      rw [show xcmp .ge (Int32.ofNat B) 1 = decide (1 ≤ B) from oi_ge (q := 1) (by omega) (by omega), decide_eq_false (by omega), cond_false] at hc
      dsimp only at hc
      rw [show xcmp .eq (-1 : Int32) (-1) = true from rfl, cond_true] at hc
      cases hc
      cases hr
      refine ⟨⟨rfl, by decide⟩, Or.inl rfl, ⟨s, d, LB_mk h (WPQ_67 hW (fun o k q1 q2 => tup_ne (by omega)) (fun k => tup_ne (by omega))) cG_67 rG_201 ⟨ha, hd⟩ ⟨?_, ?_⟩ ⟨?_, ?_, ?_, ?_⟩ ⟨?_, ?_⟩ ⟨?_, ?_⟩⟩, ⟨rfl, rfl⟩, cG_67, rG_rfl⟩
      · rw [tup_ne (by omega)]; exact t0
      · rw [tup_ne (by omega)]; exact t0'
      · rw [tup_eq, tup_eq, if_pos rfl, t1]
      · rw [tup_ne (by omega), tup_ne (by omega)]; exact t2
      · rw [tup_ne (by omega), tup_ne (by omega)]; exact t3
      · rw [tup_ne (by omega), tup_ne (by omega)]; exact t4
      · rw [tup_ne (by omega)]; exact t5
      · rw [tup_ne (by omega)]; exact t5'
      · rw [tup_ne (by omega)]; exact t7
      · rw [tup_ne (by omega)]; exact t7'
  · exact absurd hk (by decide)
  · exact absurd hk (by decide)
  · exact absurd hk (by decide)
  · exact absurd hk (by decide)
  · rcases hk3 with ⟨rfl, -⟩ | ⟨rfl, -⟩ | ⟨rfl, -⟩ <;> exact absurd hk (by decide)
  · exact absurd hk (by decide)
theorem does_none {x : Int32} (hp : pos < 60) (hx : Ir 186 (252 + 6 * pos) = x) (h : 26 ≤ x.toInt) : f342_185 N' Ir Jr (Int32.ofNat (252 + 6 * pos)) = some (1, Ir, Jr) := by
  unfold f342_185
  have ne : ∀ y : Int32, y.toInt < 26 → x ≠ y := fun y q e => by
    rw [e] at h
    omega
  rw [oi_nat (p := 252 + 6 * pos) (by omega), hx, xc_eqn (ne 21 (by decide)), cond_false, xc_eqn (ne 22 (by decide)), cond_false, xc_eqn (ne 23 (by decide)), cond_false, xc_eqn (ne 24 (by decide)), cond_false]
end LV3
