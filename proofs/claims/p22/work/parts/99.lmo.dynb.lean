/-! BUY, SKIP, BUILD, PLACE; WHO TELLS -/
section DYB
variable {N N' P S B W D s s' : Nat} {Ic Ir I1 I2 I3 I : tI} {Jc Jr J1 J2 J : tJ} {u u' : Unit} {v w : Int32}
theorem RQ_up (h : RV WQ Ic Jc Ir Jr) (hW : ∃ P S B W D s, WPQ P S B W D s I1 Jc I2 Jr) (c : cF Ic I1) (g : rF Ir I2) : RV WQ I1 Jc I2 Jr :=
  ⟨hW, MV_cp CPQ h.2 (fun o k q => ⟨c o k (by omega) (by omega) (by omega) (by omega) (by omega), rfl⟩) (c 0 12 (by omega) (by omega) (by omega) (by omega) (by omega)) (fun k q => g _ _ (by omega)) (fun _ _ => rfl) (g _ _ (by omega))⟩
theorem cS_1 {f r : Int32} : cS f r s 1 = f + Int32.ofNat s * r := by
  show 0 + (f + Int32.ofNat (s + 0) * r) = _
  rw [Int32.zero_add, Nat.add_zero]
theorem buy_run {x n : Nat} (hx : x < B) (hn : n ≤ 99) : ∀ (k k' j s : Nat) {Ic Ir : tI} {Jc Jr : tJ} {Y : Int32 × Int32 × Int32 × tI × tJ} {Y' : Int32 × Int32 × Int32 × tI × tJ}, WPQ P S B W D s Ic Jc Ir Jr → j ≤ n → f156_0_l26 N k Ic Jc (Int32.ofNat x) (Int32.ofNat n) (Int32.ofNat j) = some Y → f287_185_l28 N' k' Ir Jr (Int32.ofNat x) (Int32.ofNat n) (Int32.ofNat j) = some Y' → Y.2.2.1 = Y'.2.2.1 ∧ (∃ s', WPQ P S B W D s' Y.2.2.2.1 Jc Y'.2.2.2.1 Jr) ∧ (Y.2.2.2.2 = Jc ∧ Y'.2.2.2.2 = Jr) ∧ cF Ic Y.2.2.2.1 ∧ rF Ir Y'.2.2.2.1
  | 0, _, _, _, _, _, _, _, _, _, _, _, h, _ => by cases h
  | _ + 1, 0, _, _, _, _, _, _, _, _, _, _, _, h => by cases h
  | k + 1, k' + 1, j, s, Ic, Ir, Jc, Jr, Y, Y', hW, hj, hc, hr => by
    obtain ⟨⟨⟨⟨g1, g2, g3⟩, -, g6⟩, ⟨-, -, -, a4, -, a6⟩, ⟨-, -, -, -, b5, b6⟩, b7, b8⟩, -⟩ := id hW
    have a4 : Ic 12 1 = Int32.ofNat s := a4
    have b6 : Ir 186 5 = Int32.ofNat s := b6
    have hbx := WPQ_x hW hx
    simp only [f156_0_l26] at hc
    simp only [f287_185_l28] at hr
    rw [oi_ge (by omega) (by omega)] at hc hr
    by_cases e : n ≤ j
    · rw [decide_eq_true (by omega), cond_true] at hc hr
      cases hc
      cases hr
      exact ⟨rfl, ⟨s, hW⟩, ⟨rfl, rfl⟩, cF_rfl, rF_rfl⟩
    · have hcan : f109_10 Ic Jc (Int32.ofNat x) 1 = _ := can_c (n := 1) a4 g6 (by omega) (by omega)
      rw [decide_eq_false e, cond_false, hcan, cS_1, oi_suc (by omega)] at hc
      rw [decide_eq_false e, cond_false, oi_suc (by omega)] at hr
      dsimp only at hc
      replace hr := obI hr
      obtain ⟨w, I2, J2, e2, hr⟩ := hr
      by_cases q : s + 1 ≤ 999 ∧ (Ic 10 4 + Int32.ofNat s * Ic 10 5).toInt ≤ (Ic 32 x).toInt
      · rw [if_pos q, show xcmp .eq (1 : Int32) 0 = false from rfl, cond_false] at hc
        replace hc := obU hc
        obtain ⟨_, I1, J1, e1, hc⟩ := hc
        obtain ⟨rfl, m2, m3, m4, m5, m6, -⟩ := mk_up hW hx q e1 e2
        rw [show xcmp .eq (1 : Int32) 0 = false from rfl, cond_false] at hr
        rw [m3] at hc
        rw [m4] at hr
        obtain ⟨r1, r2, r3, r4, r5⟩ := buy_run hx hn k k' (j + 1) (s + 1) m2 (by omega) hc hr
        exact ⟨r1, r2, r3, cF_tr m5 r4, rF_tr m6 r5⟩
      · rw [if_neg q, show xcmp .eq (0 : Int32) 0 = true from rfl, cond_true] at hc
        have hpr : prr Ir s = Ic 10 4 + Int32.ofNat s * Ic 10 5 := by
          unfold prr
          rw [show Ic 10 4 = Ir 186 6 from b7, show Ic 10 5 = Ir 186 7 from b8]
        rcases mk_r b6 g6 (by omega) e2 with ⟨rfl, rfl, rfl, -⟩ | ⟨-, n1, n2, -⟩
        · rw [show xcmp .eq (0 : Int32) 0 = true from rfl, cond_true] at hr
          cases hc
          cases hr
          exact ⟨rfl, ⟨s, hW⟩, ⟨rfl, rfl⟩, cF_rfl, rF_rfl⟩
        · rw [hpr, ← hbx] at n2
          exact absurd ⟨n1, n2⟩ q
theorem buy_rel {a c : Int32} (h : RV WQ Ic Jc Ir Jr) (hc : f156_0 N Ic Jc a c = some (v, I1, J1)) (hr : f287_185 N' Ir Jr a c = some (w, I2, J2)) : v = w ∧ RV WQ I1 J1 I2 J2 := by
  obtain ⟨P, S, B, W, D, s, hW⟩ := id h.1
  obtain ⟨⟨⟨⟨g1, g2, g3⟩, -, g6⟩, ⟨-, -, -, a4, -, a6⟩, ⟨-, -, -, -, b5, b6⟩, b7, b8⟩, -⟩ := id hW
  have z1 : (1 : Int32).toInt = 1 := rfl
  have z99 : (99 : Int32).toInt = 99 := rfl
  have e1 : f216 Ir Jr c.toInt64 1 99 = _ := f216_i (lo := 1) (hi := 99)
  have rej : ∀ {y : Int32}, f122_0 Ic Jc y = (v, I1, J1) → f205_185 Ir Jr y = (w, I2, J2) → v = w ∧ RV WQ I1 J1 I2 J2 := fun q1 q2 => by
    unfold f122_0 at q1
    unfold f205_185 at q2
    cases q1
    cases q2
    exact ⟨rfl, RQ_st h⟩
  unfold f156_0 at hc
  unfold f287_185 at hr
  rw [isb_c a6 g3] at hc
  rw [isb_r b5 g3] at hr
  dsimp only at hc hr
  by_cases ha : 0 ≤ a.toInt ∧ a.toInt < B
  · rw [if_pos ha, show xcmp .eq (1 : Int32) 0 = false from rfl, cond_false, f127_is, z1, z99] at hc
    rw [if_pos ha, show xcmp .eq (1 : Int32) 0 = false from rfl, cond_false, e1, z1, z99] at hr
    dsimp only at hc hr
    by_cases hcc : 1 ≤ c.toInt ∧ c.toInt ≤ 99
    · rw [if_pos hcc, n10, cond_true] at hc hr
      obtain ⟨x, hx, rfl⟩ := nat_i ha.1
      obtain ⟨n, hn, rfl⟩ := nat_i (a := c) (by omega)
      rw [oi_int hx] at ha
      rw [oi_int hn] at hcc
      cases e2 : f156_0_l26 N N Ic Jc (Int32.ofNat x) (Int32.ofNat n) 0 with
      | none => rw [e2] at hc; cases hc
      | some Y =>
      cases e3 : f287_185_l28 N' N' Ir Jr (Int32.ofNat x) (Int32.ofNat n) 0 with
      | none => rw [e3] at hr; cases hr
      | some Y' =>
      obtain ⟨r1, ⟨s2, r2⟩, ⟨r3, r3'⟩, r4, r5⟩ := buy_run (by omega) (by omega) N N' 0 s hW (by omega) e2 e3
      obtain ⟨y1, y2, y3, I3, J3⟩ := Y
      obtain ⟨y4, y5, y6, I4, J4⟩ := Y'
      rw [e2] at hc
      rw [e3] at hr
      dsimp only at hc hr r1 r2 r3 r3' r4 r5
      subst r1
      have hV := RQ_up h ⟨P, S, B, W, D, s2, r2⟩ r4 r5
      unfold f156_0_j57 f121_0 f122_0 at hc
      unfold f287_185_j47 f206_185 f205_185 at hr
      rcases bsp hc with ⟨t, hc⟩ | ⟨t, hc⟩
      · rw [t, cond_true] at hr
        cases hc
        cases hr
        rw [r3, r3']
        exact ⟨rfl, RQ_st hV⟩
      · rw [t, cond_false] at hr
        cases hc
        cases hr
        rw [r3, r3']
        exact ⟨rfl, RQ_st hV⟩
    · rw [if_neg hcc, n00, cond_false] at hc hr
      cases hc
      cases hr
      exact rej rfl rfl
  · rw [if_neg ha, show xcmp .eq (0 : Int32) 0 = true from rfl, cond_true] at hc hr
    cases hc
    cases hr
    exact rej rfl rfl
theorem skip_run {n : Nat} (hn : s + n ≤ 999) : ∀ (k k' j : Nat) {Ic Ir : tI} {Jc Jr : tJ} {Y : Int32 × Int32 × tI × tJ} {Y' : Int32 × Int32 × tI × tJ}, WPQ P S B W D (s + j) Ic Jc Ir Jr → j ≤ n → f157_0_l35 N k Ic Jc (Int32.ofNat n) (Int32.ofNat j) = some Y → f285_185_l2 N' k' Ir Jr (Int32.ofNat n) (Int32.ofNat j) = some Y' → (WPQ P S B W D (s + n) Y.2.2.1 Jc Y'.2.2.1 Jr ∧ Y.2.2.2 = Jc ∧ Y'.2.2.2 = Jr) ∧ cF Ic Y.2.2.1 ∧ rF Ir Y'.2.2.1
  | 0, _, _, _, _, _, _, _, _, _, _, h, _ => by cases h
  | _ + 1, 0, _, _, _, _, _, _, _, _, _, _, h => by cases h
  | k + 1, k' + 1, j, Ic, Ir, Jc, Jr, Y, Y', hW, hj, hc, hr => by
    simp only [f157_0_l35] at hc
    simp only [f285_185_l2] at hr
    rw [oi_ge (by omega) (by omega)] at hc hr
    by_cases e : n ≤ j
    · have : j = n := by omega
      subst this
      rw [decide_eq_true (by omega), cond_true] at hc hr
      cases hc
      cases hr
      exact ⟨⟨hW, rfl, rfl⟩, cF_rfl, rF_rfl⟩
    · rw [decide_eq_false e, cond_false, oi_suc (by omega)] at hc hr
      obtain ⟨_, I1, J1, e1, hc2⟩ := obU hc
      obtain ⟨_, I2, J2, e2, hr2⟩ := obU hr
      clear hc hr
      obtain ⟨m1, m2, m3, m4, m5⟩ := sec_up hW (by omega) (make0 e1) e2
      subst m2 m3
      obtain ⟨r1, r2, r3⟩ := skip_run hn k k' (j + 1) m1 (by omega) hc2 hr2
      exact ⟨r1, cF_tr m4 r2, rF_tr m5 r3⟩
theorem skip_rel {a : Int32} (h : RV WQ Ic Jc Ir Jr) (hc : f157_0 N Ic Jc a = some (v, I1, J1)) (hr : f288_185 N' Ir Jr a = some (w, I2, J2)) : v = w ∧ RV WQ I1 J1 I2 J2 := by
  obtain ⟨P, S, B, W, D, s, hW⟩ := id h.1
  obtain ⟨⟨⟨⟨g1, g2, g3⟩, -, g6⟩, ⟨-, -, -, a4, -, a6⟩, ⟨-, -, -, -, b5, b6⟩, b7, b8⟩, -⟩ := id hW
  have a4 : Ic 12 1 = Int32.ofNat s := a4
  have b6 : Ir 186 5 = Int32.ofNat s := b6
  have z1 : (1 : Int32).toInt = 1 := rfl
  have z99 : (99 : Int32).toInt = 99 := rfl
  have e1 : f216 Ir Jr a.toInt64 1 99 = _ := f216_i (lo := 1) (hi := 99)
  have rej : ∀ {y : Int32}, f122_0 Ic Jc y = (v, I1, J1) → f205_185 Ir Jr y = (w, I2, J2) → v = w ∧ RV WQ I1 J1 I2 J2 := fun q1 q2 => by
    unfold f122_0 at q1
    unfold f205_185 at q2
    cases q1
    cases q2
    exact ⟨rfl, RQ_st h⟩
  unfold f157_0 at hc
  unfold f288_185 at hr
  rw [f127_is, z1, z99] at hc
  rw [e1, z1, z99] at hr
  dsimp only at hc hr
  by_cases hcc : 1 ≤ a.toInt ∧ a.toInt ≤ 99
  · rw [if_pos hcc, n10, cond_true] at hc hr
    obtain ⟨n, hn, rfl⟩ := nat_i (a := a) (by omega)
    rw [oi_int hn] at hcc
    rw [cm_c a4 g6 (by omega)] at hc
    rw [b6, oi_add, tc_le, oi_int (by omega), show (999 : Int32).toInt = 999 from rfl] at hr
    dsimp only at hc
    by_cases q : s + n ≤ 999
    · rw [if_pos q, n10, cond_true] at hc
      rw [decide_eq_true (by omega), cond_true] at hr
      cases e2 : f157_0_l35 N N Ic Jc (Int32.ofNat n) 0 with
      | none => rw [e2] at hc; cases hc
      | some Y =>
      obtain ⟨_, I4, J4, e4, hr2⟩ := obU hr
      clear hr
      obtain ⟨Y', e3, e5⟩ := sec_r e4
      obtain ⟨⟨r1, r2, r3⟩, r4, r5⟩ := skip_run q N N' 0 hW (by omega) e2 e3
      obtain ⟨y1, y2, I3, J3⟩ := Y
      obtain ⟨y3, y4, I5, J5⟩ := Y'
      rw [e2] at hc
      dsimp only at hc e5 r1 r2 r3 r4 r5
      cases e5
      have hV := RQ_up h ⟨P, S, B, W, D, s + n, r1⟩ r4 r5
      unfold f121_0 at hc
      unfold f206_185 at hr2
      cases hc
      cases hr2
      rw [r2, r3]
      obtain ⟨⟨-, ⟨-, -, -, k4, -, -⟩, ⟨-, -, -, -, -, k6⟩, -⟩, -⟩ := r1
      exact ⟨k4.trans k6.symm, RQ_st hV⟩
    · rw [if_neg q, n00, cond_false] at hc
      rw [decide_eq_false (by omega), cond_false] at hr
      cases hc
      cases hr
      exact rej rfl rfl
  · rw [if_neg hcc, n00, cond_false] at hc hr
    cases hc
    cases hr
    exact rej rfl rfl
end DYB
