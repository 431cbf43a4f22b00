/-! THE RUN, BOTH WAYS -/
def cL (I I1 : tI) : Prop := ∀ o k, o ≠ 67 → o ≠ 92 → ¬ (o = 12 ∧ k = 1) → o ≠ 19 → o ≠ 20 → o ≠ 32 → o ≠ 33 → I1 o k = I o k
def rL (I I1 : tI) : Prop := ∀ o k, o ≠ 200 → o ≠ 201 → ¬ (o = 185 ∧ (k = 30 ∨ k = 31)) → ¬ (o = 186 ∧ (k = 5 ∨ (40 ≤ k ∧ k < 110) ∨ (128 ≤ k ∧ k < 252))) → I1 o k = I o k
section LV5
variable {N N' P S B W D E s s' a a' d d' pos : Nat} {Ic Ir I1 I2 I3 I : tI} {Jc Jr J1 J2 J : tJ} {u u' : Unit} {v w : Int32}
theorem cL_rfl : cL I I := fun _ _ _ _ _ _ _ _ _ => rfl
theorem rL_rfl : rL I I := fun _ _ _ _ _ _ => rfl
theorem cL_tr (h : cL I I1) (h2 : cL I1 I2) : cL I I2 := fun o k z y a b c d e => (h2 o k z y a b c d e).trans (h o k z y a b c d e)
theorem rL_tr (h : rL I I1) (h2 : rL I1 I2) : rL I I2 := fun o k z y a b => (h2 o k z y a b).trans (h o k z y a b)
theorem cL_of (h : cG I I1) : cL I I1 := fun o k z _ a b c d e => h o k z a b c d e
theorem rL_of (h : rG I I1) : rL I I1 := fun o k _ z a b => h o k z a b
theorem act_stop (hp : pos < 60) (hk : I 27 pos = 4) (hc : f64_67_10 N I J (Int32.ofNat pos) = some (v, I1, J1)) : v = I 26 2 ∧ I1 = I ∧ J1 = J := by
  unfold f64_67_10 at hc
  rw [oi_nat (p := pos) (by omega), hk, show xcmp .eq (4 : Int32) 0 = false from rfl, cond_false, show xcmp .eq (4 : Int32) 1 = false from rfl, cond_false, show xcmp .eq (4 : Int32) 2 = false from rfl, cond_false, show xcmp .eq (4 : Int32) 3 = false from rfl, cond_false, show xcmp .eq (4 : Int32) 4 = true from rfl, cond_true] at hc
  cases hc
  exact ⟨rfl, rfl, rfl⟩
theorem act_loop (hp : pos < 60) (hk : I 27 pos = 5) (hc : f64_67_10 N I J (Int32.ofNat pos) = some (v, I1, J1)) : v = Int32.ofNat (pos + 1) ∧ I1 = tup I 92 pos (I 28 pos) ∧ J1 = J := by
  unfold f64_67_10 at hc
  rw [oi_nat (p := pos) (by omega), hk, oi_suc (by omega), show xcmp .eq (5 : Int32) 0 = false from rfl, cond_false, show xcmp .eq (5 : Int32) 1 = false from rfl, cond_false, show xcmp .eq (5 : Int32) 2 = false from rfl, cond_false, show xcmp .eq (5 : Int32) 3 = false from rfl, cond_false, show xcmp .eq (5 : Int32) 4 = false from rfl, cond_false, show xcmp .eq (5 : Int32) 5 = true from rfl, cond_true] at hc
  cases hc
  exact ⟨rfl, rfl, rfl⟩
theorem act_when (hp : pos < 60) (hk : (6 : Int) ≤ (I 27 pos).toInt) (hc : f64_67_10 N I J (Int32.ofNat pos) = some (v, I1, J1)) : ∃ x, f65_10 N I J (Int32.ofNat pos) = some (x, I1, J1) ∧ v = if x = 0 then I1 30 pos + 1 else Int32.ofNat (pos + 1) := by
  have ne : ∀ y : Int32, y.toInt < 6 → I 27 pos ≠ y := fun y q e => by
    rw [e] at hk
    omega
  unfold f64_67_10 at hc
  rw [oi_nat (p := pos) (by omega), oi_suc (by omega), xc_eqn (ne 0 (by decide)), cond_false, xc_eqn (ne 1 (by decide)), cond_false, xc_eqn (ne 2 (by decide)), cond_false, xc_eqn (ne 3 (by decide)), cond_false, xc_eqn (ne 4 (by decide)), cond_false, xc_eqn (ne 5 (by decide)), cond_false] at hc
  replace hc := obI hc
  obtain ⟨x, Ia, Ja, e1, hc⟩ := hc
  by_cases z : x = 0
  · rw [xc_eq z, cond_true] at hc
    cases hc
    exact ⟨x, e1, by rw [if_pos z]⟩
  · rw [xc_eqn z, cond_false] at hc
    cases hc
    exact ⟨x, e1, by rw [if_neg z]⟩
theorem run_end {m t : Nat} {Y : Nat × Int32 × Int32 × tI × tJ} (hE : E ≤ 60) (h26 : I 26 2 = Int32.ofNat E) (ht : t < 1000000) (h : f62_67_10_l46 N m I J (Int32.ofNat E) (Int32.ofNat t) = some Y) : Y = (0, Int32.ofNat E, Int32.ofNat t, I, J) := by
  cases m with
  | zero => cases h
  | succ m =>
  simp only [f62_67_10_l46] at h
  rw [show xcmp .ge (Int32.ofNat t) 1000000 = decide (1000000 ≤ t) from oi_ge (q := 1000000) (by omega) (by omega), decide_eq_false (by omega), cond_false, h26, f127_is, oi_sub1 (by omega), oi_int (p := E) (by omega), show (0 : Int32).toInt = 0 from rfl, if_neg (by omega)] at h
  dsimp only at h
  rw [show xcmp .eq (0 : Int32) 0 = true from rfl, cond_true] at h
  cases h
  rfl
theorem lives_run : ∀ (k pos a d s t m : Nat) {Ic Ir : tI} {Y : Nat × Int32 × Int32 × tI × tJ} {Y' : Nat × Int32 × tI × tJ}, LB P S B W D E s a d Ic Jc Ir Jr → LA E pos Ic Ir → pos ≤ E → (pos < E → Ic 27 pos ≠ 11) → t ≤ 161 * a → f345_185_l32 N' k Ir Jr (Int32.ofNat pos) = some Y' → f62_67_10_l46 N m Ic Jc (Int32.ofNat pos) (Int32.ofNat t) = some Y → (∃ s a d, LB P S B W D E s a d Y.2.2.2.1 Jc Y'.2.2.1 Jr) ∧ (Y.2.2.2.2 = Jc ∧ Y'.2.2.2 = Jr) ∧ ((Y.1 = 1 ∧ Y'.1 = 2) ∨ (Y.1 = 0 ∧ (Y'.1 = 0 ∨ Y'.1 = 1))) ∧ cL Ic Y.2.2.2.1 ∧ rL Ir Y'.2.2.1
  | 0, _, _, _, _, _, _, _, _, _, _, _, _, _, _, _, h, _ => by cases h
  | k + 1, pos, a, d, s, t, m, Ic, Ir, Y, Y', h, hA, hp, hk11, ht, hr, hc => by
    obtain ⟨hE, h26, h8, hN⟩ := LB_E h
    obtain ⟨hW, hRn, ⟨ha, hd⟩, ⟨t0, t0'⟩, ⟨t1, t2, t3, t4⟩, ⟨t5, t5'⟩, ⟨t7, t7'⟩, hf, hr0⟩ := id h
    simp only [f345_185_l32] at hr
    rw [h8, oi_ge (by omega) (by omega)] at hr
    by_cases hpE : E ≤ pos
    · have : pos = E := by omega
      subst this
      rw [decide_eq_true hpE, cond_true] at hr
      cases hr
      cases run_end hE h26 (by omega) hc
      exact ⟨⟨s, a, d, h⟩, ⟨rfl, rfl⟩, Or.inr ⟨rfl, Or.inl rfl⟩, cL_rfl, rL_rfl⟩
    have hpE : pos < E := by omega
    obtain ⟨hp6, hR, hM⟩ := LB_row h hpE
    obtain ⟨x11, x5, x4, x6, x3, xb⟩ := RR_k hR
    have hk := hk11 hpE
    have p1 : (Int32.ofNat (252 + 6 * pos) + 1).toNatClampNeg = 252 + 6 * pos + 1 := st_at (j := 1) (by omega) rfl (by omega)
    have p4 : (Int32.ofNat (252 + 6 * pos) + 4).toNatClampNeg = 252 + 6 * pos + 4 := st_at (j := 4) (by omega) rfl (by omega)
    rw [decide_eq_false (by omega), cond_false, st_0, oi_nat (p := 252 + 6 * pos) (by omega), t0'] at hr
    cases m with
    | zero => cases hc
    | succ m =>
    simp only [f62_67_10_l46] at hc
    rw [show xcmp .ge (Int32.ofNat t) 1000000 = decide (1000000 ≤ t) from oi_ge (q := 1000000) (by omega) (by omega), decide_eq_false (by omega), cond_false, h26, f127_is, oi_sub1 (by omega), oi_int (p := pos) (by omega), show (0 : Int32).toInt = 0 from rfl, if_pos (by omega)] at hc
    dsimp only at hc
    rw [show xcmp .eq (1 : Int32) 0 = false from rfl, cond_false, oi_nat (p := pos) (by omega), xc_ne hk, cond_true, t0, show xcmp .lt (Int32.ofNat a) 300 = decide (a < 300) from oi_lt (q := 300) (by omega) (by omega), oi_suc (p := t) (by omega), oi_suc (p := a) (by omega)] at hc
    by_cases h300 : a = 300
    · subst h300
      rw [show xcmp .ne (Int32.ofNat 300) 300 = false from rfl, cond_false] at hr
      rw [decide_eq_false (by omega), cond_false] at hc
      cases hr
      cases hc
      exact ⟨⟨s, 300, d, h⟩, ⟨rfl, rfl⟩, Or.inl ⟨rfl, rfl⟩, cL_rfl, rL_rfl⟩
    rw [xc_ne (y := 300) (fun q => h300 (oi_inj (b := 300) (by omega) (by omega) q)), cond_true, oi_suc (p := a) (by omega)] at hr
    rw [decide_eq_true (by omega), cond_true] at hc
    have cc : cG Ic (tup Ic 67 0 (Int32.ofNat (a + 1))) := cG_67
    have rr : rG Ir (tup Ir 185 31 (Int32.ofNat (a + 1))) := fun o k q1 q2 q3 => tup_ne (by omega)
    have h1 : LB P S B W D E s (a + 1) d (tup Ic 67 0 (Int32.ofNat (a + 1))) Jc (tup Ir 185 31 (Int32.ofNat (a + 1))) Jr := by
      refine LB_mk h (WPQ_67 hW (fun o k q1 q2 => tup_ne (by omega)) (fun k => tup_ne (by omega))) cc rr ⟨by omega, hd⟩ ⟨tup_eq, tup_eq⟩ ⟨?_, ?_, ?_, ?_⟩ ⟨?_, ?_⟩ ⟨?_, ?_⟩
      · rw [tup_ne (by omega), tup_ne (by omega)]; exact t1
      · rw [tup_ne (by omega), tup_ne (by omega)]; exact t2
      · rw [tup_ne (by omega), tup_ne (by omega)]; exact t3
      · rw [tup_ne (by omega), tup_ne (by omega)]; exact t4
      · rw [tup_ne (by omega)]; exact t5
      · rw [tup_ne (by omega)]; exact t5'
      · rw [tup_ne (by omega)]; exact t7
      · rw [tup_ne (by omega)]; exact t7'
    by_cases k4 : Ic 27 pos = 4
    · rw [x4.mp k4, show xcmp .ne (28 : Int32) 28 = false from rfl, cond_false] at hr
      replace hc := obI hc
      obtain ⟨v6, I6, J6, e6, hc⟩ := hc
      obtain ⟨rfl, rfl, rfl⟩ := act_stop hp6 (by rw [tup_ne (by omega)]; exact k4) e6
      rw [tup_ne (by omega), h26] at hc
      cases hr
      cases run_end hE (by rw [tup_ne (by omega)]; exact h26) (by omega) hc
      exact ⟨⟨s, a + 1, d, h1⟩, ⟨rfl, rfl⟩, Or.inr ⟨rfl, Or.inr rfl⟩, cL_of cc, rL_of rr⟩
    rw [xc_ne (fun q => k4 (x4.mpr q)), cond_true] at hr
    have go : ∀ (pos2 s2 d2 : Nat) (I3 I4 : tI), LB P S B W D E s2 (a + 1) d2 I3 Jc I4 Jr → LA E pos2 I3 I4 → pos2 ≤ E → cL Ic I3 → rL Ir I4 → (match f344_185 N' I4 Jr (Int32.ofNat pos2) with | none => none | some (v9, I9, J9) => f345_185_l32 N' k I9 J9 v9) = some Y' → f62_67_10_l46 N m I3 Jc (Int32.ofNat pos2) (Int32.ofNat (t + 1)) = some Y → (∃ s a d, LB P S B W D E s a d Y.2.2.2.1 Jc Y'.2.2.1 Jr) ∧ (Y.2.2.2.2 = Jc ∧ Y'.2.2.2 = Jr) ∧ ((Y.1 = 1 ∧ Y'.1 = 2) ∨ (Y.1 = 0 ∧ (Y'.1 = 0 ∨ Y'.1 = 1))) ∧ cL Ic Y.2.2.2.1 ∧ rL Ir Y'.2.2.1 := fun pos2 s2 d2 I3 I4 hB hA2 hp2 c2 r2 hr hc => by
      replace hr := obI hr
      obtain ⟨v9, I9, J9, e9, hr⟩ := hr
      have hb : (61 - pos2) + (if 0 < pos2 ∧ I3 27 (pos2 - 1) = 5 then (I3 92 (pos2 - 1)).toInt.toNat else 0) ≤ 160 := by
        by_cases q : 0 < pos2 ∧ I3 27 (pos2 - 1) = 5
        · obtain ⟨-, -, hM2⟩ := LB_row hB (show pos2 - 1 < E by omega)
          obtain ⟨e, e1, e2, e3, -⟩ := hM2.1 (by show 5 ≤ (I3 27 (pos2 - 1)).toInt ∧ (I3 27 (pos2 - 1)).toInt ≤ 10; rw [q.2]; decide)
          obtain ⟨l, l1, l2, -⟩ := hA2 (pos2 - 1) e (by omega) (by omega) e2 q.2 e3
          rw [if_pos q, l2, oi_int (by omega)]
          omega
        · rw [if_neg q]
          omega
      obtain ⟨pos3, I5, I6, m2, t2, k1, ⟨k2, k2'⟩, k3, k4, k5, k6, k7, k8⟩ := ends_rel N' pos2 160 m (t + 1) hB hA2 hp2 hb (by omega) (ends_r e9) hc
      cases k1
      obtain ⟨z1, z2, z3, z4, z5⟩ := lives_run k pos3 (a + 1) d2 s2 t2 m2 k3 k4 k2 (fun q => by rw [k7 _ _ (by omega)]; exact k2' q) (by omega) hr k5
      exact ⟨z1, z2, z3, cL_tr c2 (cL_tr (fun o k z y _ _ _ _ _ => k7 o k y) z4), rL_tr r2 (rL_tr (fun o k z y _ _ => k8 o k z) z5)⟩
    replace hc := obI hc
    obtain ⟨v6, I6, J6, e6, hc⟩ := hc
    replace hr := obI hr
    obtain ⟨v5, I5, J5, e5, hr⟩ := hr
    have r201 : tup Ir 185 31 (Int32.ofNat (a + 1)) 201 0 = Ir 201 0 := tup_ne (by omega)
    by_cases k3 : (Ic 27 pos).toInt ≤ 3
    · obtain ⟨⟨rfl, -⟩, hw, ⟨s2, d2, hB⟩, ⟨rfl, rfl⟩, q4, q5⟩ := does_rel h1 hpE (by rw [tup_ne (by omega)]; exact k3) e6 e5
      rw [r201] at hB
      have hA2 : ∀ x : Int32, LA E (pos + 1) I6 (tup I5 201 0 x) := fun x o e q1 q2 q3 q6 q7 => by
        rw [q4 _ _ (by omega) (by omega) (by omega) (by omega) (by omega) (by omega), tup_ne (by omega)] at q6 q7
        have : o ≠ pos := fun z => by
          rw [z] at q6
          rw [q6] at k3
          exact absurd k3 (by decide)
        obtain ⟨l, l1, l2, l3⟩ := hA o e (by omega) (by omega) q3 q6 q7
        exact ⟨l, l1, by rw [q4 _ _ (by omega) (by omega) (by omega) (by omega) (by omega) (by omega), tup_ne (by omega)]; exact l2, by rw [tup_ne (by omega), q5 _ _ (by omega) (by omega) (by omega), tup_ne (by omega)]; exact l3⟩
      have r0 : I5 186 (252 + 6 * pos) = Ir 186 (252 + 6 * pos) := by rw [q5 _ _ (by omega) (by omega) (by omega), tup_ne (by omega)]
      have lt26 := x3.mp k3
      have n26 : Ir 186 (252 + 6 * pos) ≠ 26 := fun e => by
        rw [e] at lt26
        exact absurd lt26 (by decide)
      rw [r0, xc_ne n26, cond_true, tc_lt, show (2500 : Int32).toInt = 2500 from rfl, decide_eq_true (by omega), cond_true, cond_true, oi_suc (p := pos) (by omega)] at hr
      have c2 : cL Ic I6 := cL_of (cG_tr cc q4)
      have r2 : ∀ x : Int32, rL Ir (tup I5 201 0 x) := fun x => rL_of (rG_tr rr (rG_tr q5 rG_201))
      rcases hw with rfl | rfl
      · rw [show xcmp .eq (0 : Int32) 0 = true from rfl, cond_true] at hr
        rw [if_pos rfl] at hB
        exact go (pos + 1) s2 d2 _ _ hB (hA2 _) (by omega) c2 (r2 _) hr hc
      · rw [show xcmp .eq (1 : Int32) 0 = false from rfl, cond_false] at hr
        rw [if_neg (by decide)] at hB
        exact go (pos + 1) s2 d2 _ _ hB (hA2 _) (by omega) c2 (r2 _) hr hc
    · have k5 : 5 ≤ (Ic 27 pos).toInt ∧ (Ic 27 pos).toInt ≤ 10 := by
        have z11 : (Ic 27 pos).toInt ≠ 11 := fun q => hk (i32_eq q)
        have z4 : (Ic 27 pos).toInt ≠ 4 := fun q => k4 (i32_eq q)
        omega
      obtain ⟨e, e1, e2, e3, e4, e7, e8⟩ := hM.1 k5
      have e3 : Ic 30 pos = Int32.ofNat e := e3
      have e7 : Ic 27 e = 11 := e7
      rw [show 0 + 252 + 6 * pos + 4 = 252 + 6 * pos + 4 by omega] at e4
      have nlt : ¬ (Ir 186 (252 + 6 * pos)).toInt < 26 := fun q => k3 (x3.mpr q)
      have hdn := does_none (N' := N') (Ir := tup Ir 185 31 (Int32.ofNat (a + 1))) (Jr := Jr) (pos := pos) hp6 (tup_ne (by omega)) (show 26 ≤ (Ir 186 (252 + 6 * pos)).toInt by omega)
      rw [hdn] at e5
      cases e5
      rw [show xcmp .eq (1 : Int32) 0 = false from rfl, cond_false, tup_ne (by omega)] at hr
      simp only [Int32.add_zero] at hr
      rw [tup_self r201] at hr
      by_cases k55 : Ic 27 pos = 5
      · rw [x5.mp k55, show xcmp .ne (26 : Int32) 26 = false from rfl, cond_false, show xcmp .lt (26 : Int32) 2500 = true from rfl, cond_true, oi_nat (p := pos) (by omega), oi_suc (p := pos) (by omega)] at hr
        obtain ⟨rfl, rfl, rfl⟩ := act_loop hp6 (by rw [tup_ne (by omega)]; exact k55) e6
        rw [p1, tup_ne (by omega)] at hr
        have hn : ∃ l, l ≤ 98 ∧ Ic 28 pos = Int32.ofNat (l + 1) ∧ Ir 186 (252 + 6 * pos + 1) = Int32.ofNat (l + 1) := by
          unfold RRw at hR
          rw [k55] at hR
          rcases hR with ⟨q, -⟩ | ⟨q, -⟩ | ⟨q, -⟩ | ⟨q, -⟩ | ⟨q, -⟩ | ⟨-, -, n, n1, n2, q1, q2⟩ | ⟨q, -⟩ | ⟨q, -⟩ | ⟨⟨q, -⟩ | ⟨q, -⟩ | ⟨q, -⟩, -⟩ | ⟨q, -⟩
          all_goals first | exact absurd q (by decide) | exact ⟨n - 1, by omega, by rw [q1]; congr 1; omega, by rw [q2]; congr 1; omega⟩
        obtain ⟨l, l1, l2, l3⟩ := hn
        rw [l3, oi_s1] at hr
        rw [tup_ne (by omega), l2] at hc
        refine go (pos + 1) s d _ _ (LB_cg h1 (fun o k q => tup_ne (by omega)) (fun o k q => tup_ne (by omega))) (fun o e' q1 q2 q3 q4 q5 => ?_) (by omega) (cL_tr (cL_of cc) (fun o k q1 q2 _ _ _ _ _ => tup_ne (by omega))) (rL_tr (rL_of rr) (fun o k q1 q2 _ _ => tup_ne (by omega))) hr hc
        by_cases z : o = pos
        · subst z
          exact ⟨l, l1, tup_eq, tup_eq⟩
        · rw [tup_ne (by omega), tup_ne (by omega)] at q4 q5
          obtain ⟨l', y1, y2, y3⟩ := hA o e' (by omega) (by omega) q3 q4 q5
          exact ⟨l', y1, by rw [tup_ne (by omega), tup_ne (by omega)]; exact y2, by rw [tup_ne (by omega), tup_ne (by omega)]; exact y3⟩
      · have k6 : (6 : Int) ≤ (Ic 27 pos).toInt := by
          have : (Ic 27 pos).toInt ≠ 5 := fun q => k55 (i32_eq q)
          omega
        rw [xc_ne (fun q => k55 (x5.mpr q)), cond_true, tc_lt, show (2500 : Int32).toInt = 2500 from rfl, decide_eq_false (by have := x6.mp ⟨k6, k5.2⟩; omega), cond_false, oi_suc (p := pos) (by omega)] at hr
        obtain ⟨x, e9, rfl⟩ := act_when hp6 (by rw [tup_ne (by omega)]; exact k6) e6
        replace hr := obI hr
        obtain ⟨v10, I10, J10, e10, hr⟩ := hr
        obtain ⟨rfl, ⟨rfl, rfl⟩, rfl, rfl⟩ := so_rel h1.1 hp6 (by rw [tup_ne (by omega)]; exact ⟨k6, k5.2⟩) (LB_row h1 hpE).2.1 e9 e10
        have hA1 : ∀ pos2, (∀ o e', o < pos2 → pos2 ≤ e' → e' < E → Ic 27 o = 5 → Ic 30 o = Int32.ofNat e' → o < pos ∧ pos ≤ e') → LA E pos2 (tup Ic 67 0 (Int32.ofNat (a + 1))) (tup Ir 185 31 (Int32.ofNat (a + 1))) := fun pos2 hh o e' q1 q2 q3 q4 q5 => by
          rw [tup_ne (by omega)] at q4 q5
          obtain ⟨n1, n2⟩ := hh o e' q1 q2 q3 q4 q5
          obtain ⟨l', y1, y2, y3⟩ := hA o e' n1 n2 q3 q4 q5
          exact ⟨l', y1, by rw [tup_ne (by omega)]; exact y2, by rw [tup_ne (by omega)]; exact y3⟩
        by_cases z : x = 0
        · rw [xc_nen z, cond_false, p4, tup_ne (by omega), e4, oi_suc (p := e) (by omega)] at hr
          rw [if_pos z, tup_ne (by omega), e3, oi_suc (p := e) (by omega)] at hc
          refine go (e + 1) s d _ _ h1 (hA1 (e + 1) (fun o e' q1 q2 q3 q4 q5 => ?_)) (by omega) (cL_of cc) (rL_of rr) hr hc
          have o1 : o ≠ pos := fun z => k55 (by rw [← z]; exact q4)
          have o2 : o ≠ e := fun z => by
            rw [z, e7] at q4
            exact absurd q4 (by decide)
          have o3 : ¬ (pos < o ∧ o < e) := fun z => by
            have := hN pos o e e' z.1 z.2 e2 k5 (by show 5 ≤ (Ic 27 o).toInt ∧ (Ic 27 o).toInt ≤ 10; rw [q4]; decide) e3 q5 q3
            omega
          exact ⟨by omega, by omega⟩
        · rw [xc_ne z, cond_true] at hr
          rw [if_neg z] at hc
          refine go (pos + 1) s d _ _ h1 (hA1 (pos + 1) (fun o e' q1 q2 q3 q4 q5 => ?_)) (by omega) (cL_of cc) (rL_of rr) hr hc
          have o1 : o ≠ pos := fun z => k55 (by rw [← z]; exact q4)
          exact ⟨by omega, by omega⟩
end LV5
