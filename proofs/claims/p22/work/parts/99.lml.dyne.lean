/-! EARN, COINS -/
section DYE
variable {N N' : Nat} {Ic Ir I1 I2 I : tI} {Jc Jr J1 J2 J : tJ} {v w : Int32}
theorem isb_c {a : Int32} {B : Nat} (h : I 10 6 = Int32.ofNat B) (hB : B ≤ 4) : f131_0 I J a = (if 0 ≤ a.toInt ∧ a.toInt < B then 1 else 0, I, J) := by
  unfold f131_0
  rw [f127_is, h, oi_sub1 (by omega), show (0 : Int32).toInt = 0 from rfl]
  dsimp only
  by_cases c : 0 ≤ a.toInt ∧ a.toInt < B
  · rw [if_pos c, if_pos (by omega)]
  · rw [if_neg c, if_neg (by omega)]
theorem isb_r {a : Int32} {B : Nat} (h : I 186 4 = Int32.ofNat B) (hB : B ≤ 4) : f256_185 I J a = (if 0 ≤ a.toInt ∧ a.toInt < B then 1 else 0, I, J) := by
  unfold f256_185
  rw [h, tc_lt, tc_ge, oi_int (by omega), show (0 : Int32).toInt = 0 from rfl]
  by_cases c : a.toInt < 0
  · rw [decide_eq_true c, cond_true, if_neg (by omega)]
  · rw [decide_eq_false c, cond_false]
    by_cases d : (B : Int) ≤ a.toInt
    · rw [decide_eq_true d, cond_true, if_neg (by omega)]
    · rw [decide_eq_false d, cond_false, if_pos (by omega)]
theorem RQ_st {s s' : Int32} (h : RV WQ Ic Jc Ir Jr) : RV WQ (tup Ic 0 5 s) Jc (tup Ir 185 2 s') Jr :=
  ⟨CPQ _ _ _ _ _ _ _ _ _ _ _ _ _ _ h.1 (fun j k _ => tup_ne (by omega)) (fun _ _ _ => rfl) (fun k _ => tup_ne (by omega)) (fun _ _ => rfl), MV_cp CPQ h.2 (fun o k ho => ⟨tup_ne (by omega), rfl⟩) (tup_ne (by omega)) (fun k _ => tup_ne (by omega)) (fun _ _ => rfl) (tup_ne (by omega))⟩
theorem earn_rel {a c : Int32} (h : RV WQ Ic Jc Ir Jr) (hc : f160_0 Ic Jc a c = (v, I1, J1)) (hr : f291_185 Ir Jr a c = (w, I2, J2)) : v = w ∧ RV WQ I1 J1 I2 J2 := by
  obtain ⟨P, S, B, W, D, s, ⟨⟨⟨g1, g2, g3⟩, -, -⟩, ⟨-, -, -, -, -, a6⟩, ⟨-, -, -, -, b5, -⟩, -⟩, -, -, -, hb, -, -⟩ := id h.1
  have z1 : (1 : Int32).toInt = 1 := rfl
  have z999 : (999 : Int32).toInt = 999 := rfl
  have rej : ∀ {s : Int32}, f122_0 Ic Jc s = (v, I1, J1) → f205_185 Ir Jr s = (w, I2, J2) → v = w ∧ RV WQ I1 J1 I2 J2 := fun q1 q2 => by
    unfold f122_0 at q1
    unfold f205_185 at q2
    cases q1
    cases q2
    exact ⟨rfl, RQ_st h⟩
  have e1 : f216 Ir Jr c.toInt64 1 999 = _ := f216_i (lo := 1) (hi := 999)
  unfold f160_0 at hc
  unfold f291_185 at hr
  rw [isb_c a6 g3] at hc
  rw [isb_r b5 g3] at hr
  dsimp only at hc hr
  by_cases ha : 0 ≤ a.toInt ∧ a.toInt < B
  · obtain ⟨x, hx, rfl⟩ := nat_i ha.1
    rw [oi_int hx] at ha hc hr
    have hbx := hb x (by omega)
    rw [show 0 + 128 + x = 128 + x by omega] at hbx
    rw [if_pos ha, show xcmp .eq (1 : Int32) 0 = false from rfl, cond_false, f127_is, z1, z999, oi_nat hx] at hc
    rw [if_pos ha, show xcmp .eq (1 : Int32) 0 = false from rfl, cond_false, e1, z1, z999, show (128 : Int32) + Int32.ofNat x = Int32.ofNat (128 + x) from oi_add (a := 128), oi_nat (by omega)] at hr
    dsimp only at hc hr
    rw [← hbx] at hr
    by_cases hcc : 1 ≤ c.toInt ∧ c.toInt ≤ 999
    · rw [if_pos hcc, n10, cond_true] at hc hr
      rcases bsp hc with ⟨t, hc⟩ | ⟨t, hc⟩
      · rw [show Ic (10 + 22) x = Ic 32 x from rfl, t, cond_true] at hr
        unfold f121_0 at hc
        unfold f206_185 at hr
        rw [tup_eq] at hc hr
        cases hc
        cases hr
        refine ⟨rfl, WQ_b h.1 (fun o k q1 q2 => ?_) (fun k q => ?_) (fun B' hB' e' hb' y hy => ?_), MV_cp CPQ h.2 (fun o k ho => ⟨?_, rfl⟩) ?_ (fun k q => ?_) (fun _ _ => rfl) ?_⟩
        · dsimp only
          rw [tup_ne (by omega), tup_ne (by omega)]
        · dsimp only
          rw [tup_ne (by omega), tup_ne (by omega)]
        · dsimp only
          by_cases e : y = x
          · subst e
            rw [show (10 + 22 : Nat) = 32 from rfl, show 0 + 128 + y = 128 + y by omega]
            refine (tup_ne (by omega)).trans (tup_eq.trans (Eq.trans tup_eq.symm (tup_ne (by omega)).symm))
          · refine (tup_ne (by omega)).trans ((tup_ne (by omega)).trans ((hb' y hy).trans (Eq.trans (tup_ne (by omega)).symm (tup_ne (by omega)).symm)))
        · dsimp only
          rw [tup_ne (by omega), tup_ne (by omega)]
        · dsimp only
          rw [tup_ne (by omega), tup_ne (by omega)]
        · dsimp only
          rw [tup_ne (by omega), tup_ne (by omega)]
        · dsimp only
          rw [tup_ne (by omega), tup_ne (by omega)]
      · rw [show Ic (10 + 22) x = Ic 32 x from rfl, t, cond_false] at hr
        exact rej hc hr
    · rw [if_neg hcc, n00, cond_false] at hc hr
      exact rej hc hr
  · rw [if_neg ha, show xcmp .eq (0 : Int32) 0 = true from rfl, cond_true] at hc hr
    exact rej hc hr
theorem ism_c {a : Int32} {s : Nat} (h : I 12 1 = Int32.ofNat s) (hs : s ≤ 999) : f132_0 I J a = (if 1 ≤ a.toInt ∧ a.toInt ≤ s then 1 else 0, I, J) := by
  unfold f132_0
  rw [f127_is, h, oi_int (by omega), show (1 : Int32).toInt = 1 from rfl]
theorem ism_r {a : Int32} {s : Nat} (h : I 186 5 = Int32.ofNat s) (hs : s ≤ 999) : f257_185 I J a = (if 1 ≤ a.toInt ∧ a.toInt ≤ s then 1 else 0, I, J) := by
  unfold f257_185
  rw [h, tc_lt, tc_gt, oi_int (by omega), show (1 : Int32).toInt = 1 from rfl]
  by_cases c : a.toInt < 1
  · rw [decide_eq_true c, cond_true, if_neg (by omega)]
  · rw [decide_eq_false c, cond_false]
    by_cases d : (s : Int) < a.toInt
    · rw [decide_eq_true d, cond_true, if_neg (by omega)]
    · rw [decide_eq_false d, cond_false, if_pos (by omega)]
/-- whose a print is: both the same -/
theorem own_is {n : Nat} (ho : WKo 10 0 Ic Ir) (h1 : 1 ≤ n) (h9 : n ≤ 999) : ∃ x, f112_10 Ic Jc (Int32.ofNat n) = (x, Ic, Jc) ∧ f279_185 Ir Jr (Int32.ofNat n) = (x, Ir, Jr) ∧ (120 < n → x = -1) := by
  unfold f112_10 f279_185
  rw [f127_is, oi_int (by omega), tc_le, oi_int (by omega), show (1 : Int32).toInt = 1 from rfl, show (120 : Int32).toInt = 120 from rfl]
  dsimp only
  by_cases q : n ≤ 120
  · have e : Int32.ofNat (132 + n) - 1 = Int32.ofNat (132 + (n - 1)) := by
      apply i32_eq
      rw [oi_sub1 (by omega), oi_int (by omega)]
      omega
    rw [if_pos (by omega), show xcmp .eq (1 : Int32) 0 = false from rfl, cond_false, oi_nat (by omega), decide_eq_true (by omega), cond_true, show (132 : Int32) + Int32.ofNat n = Int32.ofNat (132 + n) from oi_add (a := 132), e, oi_nat (by omega)]
    have := ho (n - 1) (by omega)
    rw [show n - 1 + 1 = n by omega, show 0 + 132 + (n - 1) = 132 + (n - 1) by omega] at this
    exact ⟨_, rfl, by rw [← this], fun z => absurd z (by omega)⟩
  · rw [if_neg (by omega), show xcmp .eq (0 : Int32) 0 = true from rfl, cond_true, decide_eq_false (by omega), cond_false]
    exact ⟨_, rfl, rfl, fun _ => rfl⟩
theorem RQ_own {n : Nat} {x : Int32} (h : RV WQ Ic Jc Ir Jr) (h1 : 1 ≤ n) (h2 : n ≤ 120) : RV WQ (tup Ic 33 n x) Jc (tup Ir 186 (132 + (n - 1)) x) Jr :=
  ⟨WQ_bo h.1 (fun o k q1 q2 q3 => tup_ne (by omega)) (fun k q => tup_ne (by omega)) (fun B hB e hb y hy => by
    rw [show (10 + 22 : Nat) = 32 from rfl]
    exact (tup_ne (by omega)).trans ((hb y hy).trans (tup_ne (by omega)).symm)) (fun ho k hk => by
    by_cases e : k = n - 1
    · subst e
      rw [show n - 1 + 1 = n by omega, show 0 + 132 + (n - 1) = 132 + (n - 1) by omega]
      exact tup_eq.trans tup_eq.symm
    · exact (tup_ne (by omega)).trans ((ho k hk).trans (tup_ne (by omega)).symm)), MV_cp CPQ h.2 (fun o k q => ⟨tup_ne (by omega), rfl⟩) (tup_ne (by omega)) (fun k q => tup_ne (by omega)) (fun _ _ => rfl) (tup_ne (by omega))⟩
theorem give_rel {a c : Int32} (h : RV WQ Ic Jc Ir Jr) (hc : f158_0 Ic Jc a c = (v, I1, J1)) (hr : f289_185 Ir Jr a c = (w, I2, J2)) : v = w ∧ RV WQ I1 J1 I2 J2 := by
  obtain ⟨P, S, B, W, D, s, ⟨⟨⟨g1, g2, g3⟩, -, gs⟩, ⟨-, -, -, a4, -, a6⟩, ⟨-, -, -, -, b5, b6⟩, -⟩, -, -, -, hb, ho, -⟩ := id h.1
  have rej : ∀ {s : Int32}, f122_0 Ic Jc s = (v, I1, J1) → f205_185 Ir Jr s = (w, I2, J2) → v = w ∧ RV WQ I1 J1 I2 J2 := fun q1 q2 => by
    unfold f122_0 at q1
    unfold f205_185 at q2
    cases q1
    cases q2
    exact ⟨rfl, RQ_st h⟩
  unfold f158_0 at hc
  unfold f289_185 at hr
  rw [ism_c a4 gs] at hc
  rw [ism_r b6 gs] at hr
  dsimp only at hc hr
  rw [isb_c a6 g3] at hc
  rw [isb_r b5 g3] at hr
  dsimp only at hc hr
  by_cases ha : 1 ≤ a.toInt ∧ a.toInt ≤ s
  · rw [if_pos ha, show xcmp .eq (1 : Int32) 0 = false from rfl, cond_false] at hc hr
    by_cases hcc : 0 ≤ c.toInt ∧ c.toInt < B
    · rw [if_pos hcc, n10, cond_true] at hc hr
      obtain ⟨n, hn, rfl⟩ := nat_i (a := a) (by omega)
      rw [oi_int hn] at ha
      obtain ⟨x, x1, x2, x3⟩ := own_is (Jc := Jc) (Jr := Jr) ho (n := n) (by omega) (by omega)
      rw [x1] at hc
      rw [x2] at hr
      dsimp only at hc hr
      by_cases e1 : x = -1
      · rw [xc_eq e1, cond_true] at hc hr
        exact rej hc hr
      · rw [xc_eqn e1, cond_false] at hc hr
        have n120 : n ≤ 120 := by
          by_cases z : n ≤ 120
          · exact z
          · exact absurd (x3 (by omega)) e1
        by_cases e2 : x = c
        · rw [xc_nen e2, cond_false] at hc hr
          exact rej hc hr
        · rw [xc_ne e2, cond_true] at hc hr
          have e : Int32.ofNat (132 + n) - 1 = Int32.ofNat (132 + (n - 1)) := by
            apply i32_eq
            rw [oi_sub1 (by omega), oi_int (by omega)]
            omega
          unfold f111_10 at hc
          rw [f127_is, oi_int hn, show (1 : Int32).toInt = 1 from rfl, show (120 : Int32).toInt = 120 from rfl] at hc
          dsimp only at hc
          rw [if_pos (by omega), show xcmp .eq (1 : Int32) 0 = false from rfl, cond_false, oi_nat (by omega)] at hc
          rw [show (132 : Int32) + Int32.ofNat n = Int32.ofNat (132 + n) from oi_add (a := 132), e, oi_nat (by omega)] at hr
          unfold f121_0 at hc
          unfold f206_185 at hr
          dsimp only at hc hr
          cases hc
          cases hr
          exact ⟨rfl, RQ_st (RQ_own h (by omega) n120)⟩
    · rw [if_neg hcc, n00, cond_false] at hc hr
      exact rej hc hr
  · rw [if_neg ha, show xcmp .eq (0 : Int32) 0 = true from rfl, cond_true] at hc hr
    exact rej hc hr
theorem RQ_purse {n : Nat} {x : Int32} (h : RV WQ Ic Jc Ir Jr) (h1 : n < 4) : RV WQ (tup Ic 32 n x) Jc (tup Ir 186 (128 + n) x) Jr :=
  ⟨WQ_b h.1 (fun o k q1 q2 => tup_ne (by omega)) (fun k q => tup_ne (by omega)) (fun B hB e hb y hy => by
    rw [show (10 + 22 : Nat) = 32 from rfl, show 0 + 128 + y = 128 + y by omega]
    by_cases e : y = n
    · subst e
      exact tup_eq.trans tup_eq.symm
    · have := hb y hy
      rw [show (10 + 22 : Nat) = 32 from rfl, show 0 + 128 + y = 128 + y by omega] at this
      exact (tup_ne (by omega)).trans (this.trans (tup_ne (by omega)).symm)), MV_cp CPQ h.2 (fun o k q => ⟨tup_ne (by omega), rfl⟩) (tup_ne (by omega)) (fun k q => tup_ne (by omega)) (fun _ _ => rfl) (tup_ne (by omega))⟩
theorem min_is {x : Int32} : (if 9999 < x then 9999 else x) = if x < 9999 then x else (9999 : Int32) := by
  have z : (9999 : Int32).toInt = 9999 := rfl
  by_cases a : x < 9999
  · have := Int32.lt_iff_toInt_lt.mp a
    rw [if_pos a, if_neg (fun q => by have := Int32.lt_iff_toInt_lt.mp q; omega)]
  · rw [if_neg a]
    by_cases b : 9999 < x
    · rw [if_pos b]
    · rw [if_neg b]
      apply i32_eq
      have q1 : ¬ x.toInt < 9999 := fun q => a (Int32.lt_iff_toInt_lt.mpr (by rw [z]; exact q))
      have q2 : ¬ 9999 < x.toInt := fun q => b (Int32.lt_iff_toInt_lt.mpr (by rw [z]; exact q))
      omega
theorem own_put {n : Nat} {x : Int32} (h1 : 1 ≤ n) (h2 : n ≤ 120) : f111_10 I J (Int32.ofNat n) x = ((), tup I 33 n x, J) := by
  unfold f111_10
  rw [f127_is, oi_int (by omega), show (1 : Int32).toInt = 1 from rfl, show (120 : Int32).toInt = 120 from rfl]
  dsimp only
  rw [if_pos (by omega), show xcmp .eq (1 : Int32) 0 = false from rfl, cond_false, oi_nat (by omega)]
theorem back_rel {a c : Int32} (h : RV WQ Ic Jc Ir Jr) (hc : f159_0 Ic Jc a c = (v, I1, J1)) (hr : f290_185 Ir Jr a c = (w, I2, J2)) : v = w ∧ RV WQ I1 J1 I2 J2 := by
  obtain ⟨P, S, B, W, D, s, ⟨⟨⟨g1, g2, g3⟩, -, gs⟩, ⟨-, -, -, a4, -, a6⟩, ⟨-, -, -, -, b5, b6⟩, b7, b8⟩, -, -, -, hb, ho, -⟩ := id h.1
  have rej : ∀ {s : Int32}, f122_0 Ic Jc s = (v, I1, J1) → f205_185 Ir Jr s = (w, I2, J2) → v = w ∧ RV WQ I1 J1 I2 J2 := fun q1 q2 => by
    unfold f122_0 at q1
    unfold f205_185 at q2
    cases q1
    cases q2
    exact ⟨rfl, RQ_st h⟩
  unfold f159_0 at hc
  unfold f290_185 at hr
  rw [isb_c a6 g3] at hc
  rw [isb_r b5 g3] at hr
  dsimp only at hc hr
  rw [ism_c a4 gs] at hc
  rw [ism_r b6 gs] at hr
  dsimp only at hc hr
  by_cases ha : 0 ≤ a.toInt ∧ a.toInt < B
  · rw [if_pos ha, show xcmp .eq (1 : Int32) 0 = false from rfl, cond_false] at hc hr
    by_cases hcc : 1 ≤ c.toInt ∧ c.toInt ≤ s
    · rw [if_pos hcc, n10, cond_true] at hc hr
      obtain ⟨y, hy, rfl⟩ := nat_i (a := a) (by omega)
      rw [oi_int hy] at ha
      obtain ⟨n, hn, rfl⟩ := nat_i (a := c) (by omega)
      rw [oi_int hn] at hcc
      obtain ⟨x, x1, x2, x3⟩ := own_is (Jc := Jc) (Jr := Jr) ho (n := n) (by omega) (by omega)
      rw [x1] at hc
      rw [x2] at hr
      dsimp only at hc hr
      by_cases e1 : x = Int32.ofNat y
      · rw [xc_eq e1, cond_true] at hc hr
        have n120 : n ≤ 120 := by
          by_cases z : n ≤ 120
          · exact z
          · have := x3 (by omega)
            rw [e1] at this
            exact absurd this (oi_m1 (by omega))
        have e : Int32.ofNat (132 + n) - 1 = Int32.ofNat (132 + (n - 1)) := by
          apply i32_eq
          rw [oi_sub1 (by omega), oi_int (by omega)]
          omega
        have hbx := hb y (by omega)
        rw [show (10 + 22 : Nat) = 32 from rfl, show 0 + 128 + y = 128 + y by omega] at hbx
        rw [Nat.zero_add] at b7 b8
        rw [own_put (by omega) n120] at hc
        dsimp only at hc
        rw [oi_nat (p := y) (by omega)] at hc
        rw [show (132 : Int32) + Int32.ofNat n = Int32.ofNat (132 + n) from oi_add (a := 132), e, oi_nat (p := 132 + (n - 1)) (by omega), show (128 : Int32) + Int32.ofNat y = Int32.ofNat (128 + y) from oi_add (a := 128), oi_nat (p := 128 + y) (by omega)] at hr
        unfold f106_10 f121_0 at hc
        unfold f270_185 f206_185 at hr
        dsimp only at hc hr
        rw [tup_eq, min_is] at hc
        rw [tup_eq] at hr
        have k1 : tup Ic 33 n (-1) 10 4 = tup Ir 186 (132 + (n - 1)) (-1) 186 6 := (tup_ne (by omega)).trans (b7.trans (tup_ne (by omega)).symm)
        have k2 : tup Ic 33 n (-1) 10 5 = tup Ir 186 (132 + (n - 1)) (-1) 186 7 := (tup_ne (by omega)).trans (b8.trans (tup_ne (by omega)).symm)
        have k3 : tup Ic 33 n (-1) 32 y = tup Ir 186 (132 + (n - 1)) (-1) 186 (128 + y) := (tup_ne (by omega)).trans (hbx.trans (tup_ne (by omega)).symm)
        rw [k1, k2, k3] at hc
        cases hc
        cases hr
        exact ⟨rfl, RQ_st (RQ_purse (RQ_own h (by omega) n120) (by omega))⟩
      · rw [xc_eqn e1, cond_false] at hc hr
        exact rej hc hr
    · rw [if_neg hcc, n00, cond_false] at hc hr
      exact rej hc hr
  · rw [if_neg ha, show xcmp .eq (0 : Int32) 0 = true from rfl, cond_true] at hc hr
    exact rej hc hr
theorem coins_rel {a : Int32} (h : WQ 10 0 0 Ic Jc Ir Jr) (hc : f153_0 Ic Jc a = (v, I1, J1)) (hr : f278_185 Ir Jr a = (w, I2, J2)) : v = w := by
  obtain ⟨P, S, B, W, D, s, ⟨⟨⟨g1, g2, g3⟩, -, gs⟩, ⟨-, -, -, a4, -, a6⟩, ⟨-, -, -, -, b5, b6⟩, b7, b8⟩, -, -, -, hb, ho, -⟩ := h
  unfold f153_0 at hc
  unfold f278_185 at hr
  rw [isb_c a6 g3] at hc
  rw [isb_r b5 g3] at hr
  dsimp only at hc hr
  by_cases ha : 0 ≤ a.toInt ∧ a.toInt < B
  · obtain ⟨x, hx, rfl⟩ := nat_i ha.1
    rw [oi_int hx] at ha hc hr
    have hbx := hb x (by omega)
    rw [show (10 + 22 : Nat) = 32 from rfl, show 0 + 128 + x = 128 + x by omega] at hbx
    rw [if_pos ha, show xcmp .eq (1 : Int32) 0 = false from rfl, cond_false, oi_nat hx] at hc
    rw [if_pos ha, show xcmp .eq (1 : Int32) 0 = false from rfl, cond_false, show (128 : Int32) + Int32.ofNat x = Int32.ofNat (128 + x) from oi_add (a := 128), oi_nat (by omega)] at hr
    unfold f121_0 at hc
    unfold f206_185 at hr
    cases hc
    cases hr
    exact hbx
  · rw [if_neg ha, show xcmp .eq (0 : Int32) 0 = true from rfl, cond_true] at hc hr
    unfold f122_0 at hc
    unfold f205_185 at hr
    cases hc
    cases hr
    rfl
theorem owner_rel {a : Int32} (h : WQ 10 0 0 Ic Jc Ir Jr) (hc : f154_0 Ic Jc a = (v, I1, J1)) (hr : f280_185 Ir Jr a = (w, I2, J2)) : v = w := by
  obtain ⟨P, S, B, W, D, s, ⟨⟨⟨g1, g2, g3⟩, -, gs⟩, ⟨-, -, -, a4, -, a6⟩, ⟨-, -, -, -, b5, b6⟩, b7, b8⟩, -, -, -, hb, ho, -⟩ := h
  unfold f154_0 at hc
  unfold f280_185 at hr
  rw [ism_c a4 gs] at hc
  rw [ism_r b6 gs] at hr
  dsimp only at hc hr
  by_cases ha : 1 ≤ a.toInt ∧ a.toInt ≤ s
  · obtain ⟨n, hn, rfl⟩ := nat_i (a := a) (by omega)
    have ha' := ha
    rw [oi_int hn] at ha'
    obtain ⟨x, x1, x2, -⟩ := own_is (Jc := Jc) (Jr := Jr) ho (n := n) (by omega) (by omega)
    rw [if_pos ha, show xcmp .eq (1 : Int32) 0 = false from rfl, cond_false, x1] at hc
    rw [if_pos ha, show xcmp .eq (1 : Int32) 0 = false from rfl, cond_false, x2] at hr
    dsimp only at hc hr
    unfold f125_0 f121_0 f122_0 at hc
    unfold f207_185 f206_185 f205_185 at hr
    rcases bsp hc with ⟨t, hc⟩ | ⟨t, hc⟩
    · rw [t, cond_true] at hr
      cases hc
      cases hr
      rfl
    · rw [t, cond_false] at hr
      cases hc
      cases hr
      rfl
  · rw [if_neg ha, show xcmp .eq (0 : Int32) 0 = true from rfl, cond_true] at hc hr
    unfold f122_0 at hc
    unfold f205_185 at hr
    cases hc
    cases hr
    rfl
theorem pricedQ_rel {a b : Int32} (h : RV WQ Ic Jc Ir Jr) (hc : f161_0 Ic Jc a b = (v, I1, J1)) (hr : f292_185 Ir Jr a b = (w, I2, J2)) : v = w ∧ RV WQ I1 J1 I2 J2 := by
  have z0 : (0 : Int32).toInt = 0 := rfl
  have z99 : (99 : Int32).toInt = 99 := rfl
  have z20 : (20 : Int32).toInt = 20 := rfl
  have e1 : f216 Ir Jr a.toInt64 0 99 = _ := f216_i (lo := 0) (hi := 99)
  have e2 : f216 Ir Jr b.toInt64 0 20 = _ := f216_i (lo := 0) (hi := 20)
  have rej : f124_0 Ic Jc 1 = (v, I1, J1) → f204_185 Ir Jr 1 = (w, I2, J2) → v = w ∧ RV WQ I1 J1 I2 J2 := fun q1 q2 => by
    unfold f124_0 at q1
    unfold f204_185 at q2
    rw [show xcmp .ne (1 : Int32) 0 = true from rfl, cond_true] at q2
    cases q1
    cases q2
    exact ⟨rfl, RQ_st h⟩
  unfold f161_0 at hc
  unfold f292_185 at hr
  rw [f127_is, z0, z99] at hc
  rw [e1, z0, z99] at hr
  dsimp only at hc hr
  by_cases c1 : 0 ≤ a.toInt ∧ a.toInt ≤ 99
  · rw [if_pos c1, show xcmp .eq (1 : Int32) 0 = false from rfl, cond_false] at hc hr
    rw [f127_is, z0, z20] at hc
    rw [e2, z0, z20] at hr
    dsimp only at hc hr
    by_cases c2 : 0 ≤ b.toInt ∧ b.toInt ≤ 20
    · rw [if_pos c2, n10, cond_true] at hc hr
      unfold f123_0 at hc
      unfold f204_185 at hr
      rw [n00, cond_false] at hr
      cases hc
      cases hr
      have k : RV WQ (tup (tup Ic 10 4 a) 10 5 b) Jc (tup (tup Ir 186 6 a) 186 7 b) Jr :=
        ⟨WQ_p h.1 (fun o k q1 q2 => by rw [tup_ne (by omega), tup_ne (by omega)]) (fun k q => by rw [tup_ne (by omega), tup_ne (by omega)]) (by rw [tup_ne (by omega), tup_eq, tup_ne (by omega), tup_eq]) (by rw [tup_eq, tup_eq]), MV_cp CPQ h.2 (fun o k q => ⟨by rw [tup_ne (by omega), tup_ne (by omega)], rfl⟩) (by rw [tup_ne (by omega), tup_ne (by omega)]) (fun k q => by rw [tup_ne (by omega), tup_ne (by omega)]) (fun _ _ => rfl) (by rw [tup_ne (by omega), tup_ne (by omega)])⟩
      exact ⟨rfl, RQ_st k⟩
    · rw [if_neg c2, n00, cond_false] at hc hr
      exact rej hc hr
  · rw [if_neg c1, show xcmp .eq (0 : Int32) 0 = true from rfl, cond_true] at hc hr
    exact rej hc hr
theorem RQ_step {p k : Nat} {s : Int32} (h : RV WQ Ic Jc Ir Jr) (hp : p < 5) (hk : k < 8) : RV WQ (tup Ic 18 (8 * p + k) s) Jc (tup Ir 186 (46 + 14 * p + k) s) Jr :=
  ⟨WQ_f h.1 (fun o i q1 q2 => tup_ne (by omega)) (fun i q => tup_ne (by omega)) (fun s' W D P hP hWD h0 hF p' hp' => by
    obtain ⟨e1, ⟨e2, e3⟩, ⟨m, m1, m8, e4, e5, e6⟩, e7, e8⟩ := hF p' hp'
    rw [tup_ne (o' := 12 + 2) (by omega), tup_ne (o' := 12 + 3) (by omega), tup_ne (o' := 12 + 4) (by omega), tup_ne (o' := 12 + 5) (by omega), tup_ne (o' := 12 + 7) (by omega), tup_ne (o' := 12 + 8) (by omega), tup_ne (k' := 40 + 14 * p') (by omega), tup_ne (k' := 40 + 14 * p' + 1) (by omega), tup_ne (k' := 40 + 14 * p' + 2) (by omega), tup_ne (k' := 40 + 14 * p' + 3) (by omega), tup_ne (k' := 40 + 14 * p' + 4) (by omega), tup_ne (k' := 40 + 14 * p' + 5) (by omega)]
    refine ⟨e1, ⟨e2, e3⟩, ⟨m, m1, m8, e4, e5, fun k' hk' => ?_⟩, e7, e8⟩
    by_cases z : p' = p ∧ k' = k
    · obtain ⟨rfl, rfl⟩ := z
      rw [show 12 + 6 = 18 from rfl, show 40 + 14 * p' + 6 + k' = 46 + 14 * p' + k' by omega]
      exact tup_eq.trans tup_eq.symm
    · exact (tup_ne (by omega)).trans ((e6 k' hk').trans (tup_ne (by omega)).symm)), MV_cp CPQ h.2 (fun o i q => ⟨tup_ne (by omega), rfl⟩) (tup_ne (by omega)) (fun i q => tup_ne (by omega)) (fun _ _ => rfl) (tup_ne (by omega))⟩
theorem WQ_17 {b sl u : Nat} (h : WQ b sl u Ic Jc Ir Jr) : V17 b sl u Ic Jc Ir Jr := by
  obtain ⟨P, S, B, W, D, s, ⟨⟨⟨hP, -, -⟩, -⟩, ⟨-, -, a3, -⟩, ⟨-, -, b3, -⟩, -⟩, -, hF, -⟩ := h
  refine ⟨P, hP, a3, b3, fun p hp => ?_⟩
  obtain ⟨-, -, ⟨m, m1, m8, d, e, f⟩, -⟩ := hF p hp
  refine ⟨m, m1, m8, d, ?_, fun k hk => ?_⟩
  · rw [show sl + (43 + 14 * p) = sl + 40 + 14 * p + 3 by omega]
    exact e
  · rw [show sl + (46 + 14 * p + k) = sl + 40 + 14 * p + 6 + k by omega]
    exact f k hk
theorem teachQ_rel {a k s : Int32} (h : RV WQ Ic Jc Ir Jr) (hc : f163_0 Ic Jc a k s = (v, I1, J1)) (hr : f294_185 Ir Jr a k s = (w, I2, J2)) : v = w ∧ RV WQ I1 J1 I2 J2 := by
  obtain ⟨P, hP, c1, c2, c3⟩ := WQ_17 h.1
  have z0 : (0 : Int32).toInt = 0 := rfl
  have z4 : (4 : Int32).toInt = 4 := rfl
  have rej : f124_0 Ic Jc 1 = (v, I1, J1) → f204_185 Ir Jr 1 = (w, I2, J2) → v = w ∧ RV WQ I1 J1 I2 J2 := fun q1 q2 => by
    unfold f124_0 at q1
    unfold f204_185 at q2
    rw [show xcmp .ne (1 : Int32) 0 = true from rfl, cond_true] at q2
    cases q1
    cases q2
    exact ⟨rfl, RQ_st h⟩
  unfold f163_0 at hc
  unfold f294_185 at hr
  rw [isp_c c1 hP] at hc
  rw [isp_r (by rw [← c2]) hP] at hr
  dsimp only at hc hr
  by_cases ha : 0 ≤ a.toInt ∧ a.toInt < P
  · obtain ⟨p, hp, rfl⟩ := nat_i ha.1
    rw [oi_int hp] at ha
    obtain ⟨m, m1, m8, d, e, f⟩ := c3 p (by omega)
    rw [show 0 + (43 + 14 * p) = 40 + 14 * p + 3 by omega] at e
    rw [oi_int hp] at hc hr
    rw [if_pos ha, show xcmp .eq (1 : Int32) 0 = false from rfl, cond_false, f127_is, z0, z4] at hc
    rw [if_pos ha, show xcmp .eq (1 : Int32) 0 = false from rfl, cond_false, show (3 : Int32) = Int32.ofNat 3 from rfl, row_r (by omega) (by omega)] at hr
    dsimp only at hc hr
    have e1 : f216 Ir Jr k.toInt64 0 (Int32.ofNat (m - 1)).toInt64 = _ := f216_i (lo := 0) (hi := Int32.ofNat (m - 1))
    have e2 : f216 Ir Jr s.toInt64 0 4 = _ := f216_i (lo := 0) (hi := 4)
    rw [e, l_pred m1 m8, e1, z0, oi_int (by omega)] at hr
    dsimp only at hr
    by_cases hs : 0 ≤ s.toInt ∧ s.toInt ≤ 4
    · rw [if_pos hs, n10, cond_true, oi_nat hp, d, f127_is, oi_sub1 (by omega), z0] at hc
      dsimp only at hc
      by_cases hk : 0 ≤ k.toInt ∧ k.toInt ≤ (m : Int) - 1
      · obtain ⟨q, hq, rfl⟩ := nat_i hk.1
        have hk' := hk
        rw [oi_int hq] at hk'
        rw [if_pos hk, n10, cond_true, show Int32.ofNat p * 8 = Int32.ofNat (p * 8) from oi_mul (b := 8), oi_add, oi_nat (by omega)] at hc
        rw [if_pos (by omega), show xcmp .eq (1 : Int32) 0 = false from rfl, cond_false, e2, z0, z4] at hr
        dsimp only at hr
        rw [if_pos hs, n10, cond_true] at hr
        unfold f251 at hr
        dsimp only at hr
        rw [show (14 : Int32) * Int32.ofNat p = Int32.ofNat (14 * p) from oi_mul (a := 14), show (40 : Int32) + Int32.ofNat (14 * p) = Int32.ofNat (40 + 14 * p) from oi_add (a := 40), show Int32.ofNat (40 + 14 * p) + 6 = Int32.ofNat (40 + 14 * p + 6) from oi_add (b := 6), oi_add, oi_nat (by omega)] at hr
        unfold f123_0 at hc
        unfold f204_185 at hr
        rw [n00, cond_false] at hr
        cases hc
        cases hr
        have g := RQ_st (s := 0) (s' := 0) (RQ_step (s := s) h (p := p) (k := q) (by omega) (by omega))
        rw [show 8 * p + q = p * 8 + q by omega, show 46 + 14 * p + q = 40 + 14 * p + 6 + q by omega] at g
        exact ⟨rfl, g⟩
      · rw [if_neg hk, n00, cond_false] at hc
        rw [if_neg (by omega), show xcmp .eq (0 : Int32) 0 = true from rfl, cond_true] at hr
        exact rej hc hr
    · rw [if_neg hs, n00, cond_false] at hc
      by_cases hk : 0 ≤ k.toInt ∧ k.toInt ≤ ((m - 1 : Nat) : Int)
      · rw [if_pos hk, show xcmp .eq (1 : Int32) 0 = false from rfl, cond_false, e2, z0, z4] at hr
        dsimp only at hr
        rw [if_neg hs, n00, cond_false] at hr
        exact rej hc hr
      · rw [if_neg hk, show xcmp .eq (0 : Int32) 0 = true from rfl, cond_true] at hr
        exact rej hc hr
  · rw [if_neg ha, show xcmp .eq (0 : Int32) 0 = true from rfl, cond_true] at hc hr
    exact rej hc hr
end DYE
