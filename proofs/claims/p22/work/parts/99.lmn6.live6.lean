/-! LIVE -/
def RX (b sl _u : Nat) (Ic : tI) (_ : tJ) (Ir : tI) (_ : tJ) : Prop := (Ic (b + 16) 0 = 0 ∧ Ir 186 (sl + 8) = -1) ∨ (Ic (b + 16) 0 = 1 ∧ ∃ P S B E, (P ≤ 5 ∧ S ≤ 6 ∧ B ≤ 4) ∧ (Ic (b + 2) 0 = Int32.ofNat P ∧ Ic (b + 11) 0 = Int32.ofNat S ∧ Ic b 6 = Int32.ofNat B) ∧ RN2 (b + 16) sl P S B E Ic Ir)
/-- what was told of the latest life -/
def LV (Ic Ir : tI) : Prop := Ic 0 17 = Ir 185 35 ∧ (Ic 0 17 ≠ 0 → ∀ j, j < 5 → Ic 93 j = Ir 202 j)
section LV6
variable {N N' P S B W D E s s' a a' d d' pos : Nat} {Ic Ir I1 I2 I3 I : tI} {Jc Jr J1 J2 J : tJ} {u u' : Unit} {v w : Int32}
theorem RX_cg {b sl u b' sl' u' : Nat} (h : RX b sl u Ic Jc Ir Jr) (c : ∀ o k, (o = 2 ∧ k = 0) ∨ (o = 11 ∧ k = 0) ∨ (o = 0 ∧ k = 6) ∨ (o = 16 ∧ (k = 0 ∨ k = 2)) ∨ (17 ≤ o ∧ o ≤ 20 ∧ k < 60) → I1 (b' + o) k = Ic (b + o) k) (g : ∀ k, k = 8 ∨ (252 ≤ k ∧ k < 612) → I2 186 (sl' + k) = Ir 186 (sl + k)) : RX b' sl' u' I1 J1 I2 J2 := by
  rcases h with ⟨h1, h2⟩ | ⟨h1, P, S, B, E, hb, ⟨p1, p2, p3⟩, hE, q1, q2, q3, q4⟩
  · exact Or.inl ⟨by rw [c 16 0 (by omega)]; exact h1, by rw [g 8 (by omega)]; exact h2⟩
  · have c0 : ∀ k, k = 6 → I1 b' k = Ic b k := fun k q => c 0 k (by omega)
    refine Or.inr ⟨by rw [c 16 0 (by omega)]; exact h1, P, S, B, E, hb, ⟨by rw [c 2 0 (by omega)]; exact p1, by rw [c 11 0 (by omega)]; exact p2, by rw [c0 6 rfl]; exact p3⟩, RN2_cp ⟨hE, q1, q2, q3, q4⟩ (c 16 2 (by omega)) (fun o k y1 y2 y3 => ?_) g⟩
    rw [show b' + 16 + o = b' + (16 + o) by omega, show b + 16 + o = b + (16 + o) by omega]
    exact c (16 + o) k (by omega)
theorem cpX_in {o k : Nat} (q : (o = 2 ∧ k = 0) ∨ (o = 11 ∧ k = 0) ∨ (o = 0 ∧ k = 6) ∨ (o = 16 ∧ (k = 0 ∨ k = 2)) ∨ (17 ≤ o ∧ o ≤ 20 ∧ k < 60)) : cpI o k := by
  unfold cpI
  rcases q with ⟨rfl, rfl⟩ | ⟨rfl, rfl⟩ | ⟨rfl, rfl⟩ | ⟨rfl, q⟩ | q
  · exact Or.inr (Or.inl ⟨Or.inr rfl, by omega⟩)
  · exact Or.inr (Or.inr (Or.inr (Or.inr (Or.inl ⟨rfl, rfl⟩))))
  · exact Or.inl ⟨rfl, by omega, by omega⟩
  · exact Or.inr (Or.inr (Or.inr (Or.inr (Or.inr (Or.inr (Or.inl ⟨rfl, by omega⟩))))))
  · exact Or.inr (Or.inr (Or.inr (Or.inr (Or.inr (Or.inr (Or.inr (Or.inl ⟨q.1, q.2.1, q.2.2⟩)))))))
theorem CPX : CPV RX := fun b sl u b' sl' u' Ic Ir Ic' Ir' Jc Jr Jc' Jr' h h1 h2 h3 h4 => RX_cg h (fun o k q => h1 o k (cpX_in q)) (fun k q => h3 k (by omega))
theorem zero_run : ∀ (k p : Nat) {I : tI} {J : tJ} {Y : Int32 × tI × tJ}, p ≤ 5 → (∀ i, i < p → I 201 i = 0) → f345_185_l12 N k I J (Int32.ofNat p) = some Y → Y.2.2 = J ∧ (∀ o i, o ≠ 201 → Y.2.1 o i = I o i) ∧ ∀ i, i < 5 → Y.2.1 201 i = 0
  | 0, _, _, _, _, _, _, h => by cases h
  | k + 1, p, I, J, Y, hp, h0, h => by
    simp only [f345_185_l12] at h
    rw [show xcmp .ge (Int32.ofNat p) 5 = decide (5 ≤ p) from oi_ge (q := 5) (by omega) (by omega)] at h
    by_cases e : 5 ≤ p
    · rw [decide_eq_true e, cond_true] at h
      cases h
      exact ⟨rfl, fun _ _ _ => rfl, fun i hi => h0 i (by omega)⟩
    · rw [decide_eq_false e, cond_false, oi_nat (by omega), oi_suc (by omega)] at h
      obtain ⟨a1, a2, a3⟩ := zero_run k (p + 1) (by omega) (fun i hi => by
        by_cases z : i = p
        · rw [z, tup_eq]
        · rw [tup_ne (by omega)]
          exact h0 i (by omega)) h
      exact ⟨a1, fun o i z => by rw [a2 o i z, tup_ne (by omega)], a3⟩
theorem told_run : ∀ (k p : Nat) {I : tI} {J : tJ} {Y : Int32 × tI × tJ}, p ≤ 5 → (∀ i, i < p → I 202 i = I 201 i) → f346_185_l43 N k I J (Int32.ofNat p) = some Y → Y.2.2 = J ∧ (∀ o i, o ≠ 202 → Y.2.1 o i = I o i) ∧ ∀ i, i < 5 → Y.2.1 202 i = I 201 i
  | 0, _, _, _, _, _, _, h => by cases h
  | k + 1, p, I, J, Y, hp, h0, h => by
    simp only [f346_185_l43] at h
    rw [show xcmp .ge (Int32.ofNat p) 5 = decide (5 ≤ p) from oi_ge (q := 5) (by omega) (by omega)] at h
    by_cases e : 5 ≤ p
    · rw [decide_eq_true e, cond_true] at h
      cases h
      exact ⟨rfl, fun _ _ _ => rfl, fun i hi => h0 i (by omega)⟩
    · rw [decide_eq_false e, cond_false, oi_nat (by omega), oi_suc (by omega)] at h
      obtain ⟨a1, a2, a3⟩ := told_run k (p + 1) (by omega) (fun i hi => by
        by_cases z : i = p
        · rw [z, tup_eq, tup_ne (by omega)]
        · rw [tup_ne (by omega), tup_ne (by omega)]
          exact h0 i (by omega)) h
      exact ⟨a1, fun o i z => by rw [a2 o i z, tup_ne (by omega)], fun i hi => by rw [a3 i hi, tup_ne (by omega)]⟩
/-- a run from its start -/
theorem run_rel (hW : WPQ P S B W D s Ic Jc Ir Jr) (hR : RN2 26 0 P S B E Ic Ir) (hf : (0 ≤ (Ic 10 4).toInt ∧ (Ic 10 4).toInt ≤ 99) ∧ 0 ≤ (Ic 10 5).toInt ∧ (Ic 10 5).toInt ≤ 20) (hd : d < 65536) (hc : f62_67_10 N Ic Jc (Int32.ofNat d) = some (u, I1, J1)) (hr : f345_185 N' Ir Jr (Int32.ofNat d) = some (u', I2, J2)) : (∃ s', WPQ P S B W D s' I1 Jc I2 Jr) ∧ (J1 = Jc ∧ J2 = Jr) ∧ I1 67 0 = I2 185 31 ∧ (I1 67 1 = I2 201 0 ∧ I1 67 2 = I2 201 1 ∧ I1 67 3 = I2 201 2 ∧ I1 67 4 = I2 201 3) ∧ ((I1 67 5 = 0 ∧ I2 201 4 = 0) ∨ (I1 67 5 = 1 ∧ I2 201 4 = 1)) ∧ cL Ic I1 ∧ rL Ir I2 := by
  unfold f62_67_10 at hc
  unfold f345_185 at hr
  cases e1 : f345_185_l12 N' N' (tup (tup Ir 185 30 (Int32.ofNat d)) 185 31 0) Jr 0 with
  | none => rw [e1] at hr; cases hr
  | some Z =>
  obtain ⟨z1, z2, z3⟩ := zero_run N' 0 (by omega) (fun i hi => absurd hi (by omega)) e1
  obtain ⟨y1, I3, J3⟩ := Z
  rw [e1] at hr
  dsimp only at hr z1 z2 z3
  subst z1
  generalize hI0 : tup (tup (tup (tup (tup (tup (tup Ic 67 0 0) 67 1 0) 67 2 0) 67 3 0) 67 4 0) 67 5 0) 67 7 (Int32.ofNat d) = I0 at hc
  have i0 : ∀ o k, o ≠ 67 → I0 o k = Ic o k := fun o k q => by
    rw [← hI0, tup_ne (by omega), tup_ne (by omega), tup_ne (by omega), tup_ne (by omega), tup_ne (by omega), tup_ne (by omega), tup_ne (by omega)]
  have j0 : ∀ o k, o ≠ 201 → ¬ (o = 185 ∧ (k = 30 ∨ k = 31)) → I3 o k = Ir o k := fun o k q1 q2 => by
    rw [z2 o k q1, tup_ne (by omega), tup_ne (by omega)]
  have hB : LB P S B W D E s 0 d I0 Jc I3 J3 := by
    refine ⟨WPQ_67 hW (fun o k q1 q2 => i0 o k (by omega)) (fun k => j0 _ _ (by omega) (by omega)), RN2_cg hR (fun o k q1 q2 => i0 o k (by omega)) (fun k q => j0 _ _ (by omega) (by omega)), ⟨by omega, hd⟩, ⟨?_, ?_⟩, ⟨?_, ?_, ?_, ?_⟩, ⟨?_, ?_⟩, ⟨?_, ?_⟩, ?_⟩
    · rw [← hI0]; rfl
    · rw [z2 _ _ (by omega), tup_eq]; rfl
    · rw [z3 0 (by omega), ← hI0]; rfl
    · rw [z3 1 (by omega), ← hI0]; rfl
    · rw [z3 2 (by omega), ← hI0]; rfl
    · rw [z3 3 (by omega), ← hI0]; rfl
    · rw [← hI0]; rfl
    · exact z3 4 (by omega)
    · rw [← hI0, tup_eq]
    · rw [z2 _ _ (by omega), tup_ne (by omega), tup_eq]
    · rw [i0 _ _ (by omega), i0 _ _ (by omega)]; exact hf
  cases e2 : f62_67_10_l46 N N I0 Jc 0 0 with
  | none => rw [e2] at hc; cases hc
  | some Y =>
  cases e3 : f345_185_l32 N' N' I3 J3 0 with
  | none => rw [e3] at hr; cases hr
  | some Y' =>
  have h11 : 0 < E → I0 27 0 ≠ 11 := fun q e => by
    obtain ⟨o, ho, -⟩ := (LB_row hB q).2.2.2 e
    omega
  obtain ⟨⟨s2, a2, d2, q1⟩, ⟨q2, q3⟩, q4, q5, q6⟩ := lives_run N' 0 0 d s 0 N hB (fun o e q => absurd q (by omega)) (by omega) h11 (by omega) e3 e2
  obtain ⟨k1, x4, x5, I4, J4⟩ := Y
  obtain ⟨k2, x6, I5, J5⟩ := Y'
  rw [e2] at hc
  rw [e3] at hr
  dsimp only at hc hr q1 q2 q3 q4 q5 q6
  subst q2 q3
  have cc : cL Ic I4 := cL_tr (fun o k z _ _ _ _ _ _ => i0 o k z) q5
  have rr : rL Ir I5 := rL_tr (fun o k _ z y _ => j0 o k z y) q6
  obtain ⟨w1, w2, w3, ⟨t0, t0'⟩, ⟨t1, t2, t3, t4⟩, ⟨t5, t5'⟩, -, -⟩ := q1
  rcases q4 with ⟨rfl, rfl⟩ | ⟨rfl, rfl | rfl⟩
  · cases hc
    cases hr
    refine ⟨⟨s2, WPQ_67 w1 (fun o k q1 q2 => tup_ne (by omega)) (fun k => tup_ne (by omega))⟩, ⟨rfl, rfl⟩, ?_, ⟨?_, ?_, ?_, ?_⟩, Or.inr ⟨tup_eq, tup_eq⟩, cL_tr cc (fun o k q _ _ _ _ _ _ => tup_ne (by omega)), rL_tr rr (fun o k _ q _ _ => tup_ne (by omega))⟩
    · rw [tup_ne (by omega), tup_ne (by omega), t0, t0']
    · rw [tup_ne (by omega), tup_ne (by omega)]; exact t1
    · rw [tup_ne (by omega), tup_ne (by omega)]; exact t2
    · rw [tup_ne (by omega), tup_ne (by omega)]; exact t3
    · rw [tup_ne (by omega), tup_ne (by omega)]; exact t4
  · cases hc
    cases hr
    exact ⟨⟨s2, w1⟩, ⟨rfl, rfl⟩, t0.trans t0'.symm, ⟨t1, t2, t3, t4⟩, Or.inl ⟨t5, t5'⟩, cc, rr⟩
  · cases hc
    cases hr
    exact ⟨⟨s2, w1⟩, ⟨rfl, rfl⟩, t0.trans t0'.symm, ⟨t1, t2, t3, t4⟩, Or.inl ⟨t5, t5'⟩, cc, rr⟩
theorem live_rel {x : Int32} (h : RV WQ Ic Jc Ir Jr) (hx : RV RX Ic Jc Ir Jr) (hf : (0 ≤ (Ic 10 4).toInt ∧ (Ic 10 4).toInt ≤ 99) ∧ 0 ≤ (Ic 10 5).toInt ∧ (Ic 10 5).toInt ≤ 20) (hc : f194_0 N Ic Jc x = some (v, I1, J1)) (hr : f346_185 N' Ir Jr x = some (w, I2, J2)) : v = w ∧ RV WQ I1 J1 I2 J2 ∧ RV RX I1 J1 I2 J2 ∧ (LV Ic Ir → LV I1 I2) := by
  have e1 : f216 Ir Jr x.toInt64 0 9999 = _ := f216_i (lo := 0) (hi := 9999)
  have z0 : (0 : Int32).toInt = 0 := rfl
  have z9 : (9999 : Int32).toInt = 9999 := rfl
  -- what is not of the world changes
  have upX : ∀ {Ib Id : tI} {Jb Jd : tJ}, (∀ o k, 10 ≤ o → ¬ (o = 12 ∧ k = 1) → o ≠ 19 → o ≠ 20 → o ≠ 32 → o ≠ 33 → o ≠ 67 → o ≠ 92 → o ≠ 93 → Ib o k = Ic o k) → Ib 0 12 = Ic 0 12 → (∀ k, ¬ (k = 5 ∨ (40 ≤ k ∧ k < 110) ∨ (128 ≤ k ∧ k < 252)) → Id 186 k = Ir 186 k) → Id 185 36 = Ir 185 36 → RV RX Ib Jb Id Jd := fun {Ib Id Jb Jd} q1 q2 q3 q4 => by
    obtain ⟨hx0, n, hn, ⟨m1, m2⟩, m3⟩ := hx
    exact ⟨RX_cg hx0 (fun o k q => q1 _ _ (by omega) (by omega) (by omega) (by omega) (by omega) (by omega) (by omega) (by omega) (by omega)) (fun k q => q3 _ (by omega)), n, hn, ⟨q2.trans m1, q4.trans m2⟩, fun j hj => RX_cg (m3 j hj) (fun o k q => q1 _ _ (by omega) (by omega) (by omega) (by omega) (by omega) (by omega) (by omega) (by omega) (by omega)) (fun k q => q3 _ (by omega))⟩
  have rej : ∀ {y : Int32}, f122_0 Ic Jc y = (v, I1, J1) → f205_185 Ir Jr y = (w, I2, J2) → v = w ∧ RV WQ I1 J1 I2 J2 ∧ RV RX I1 J1 I2 J2 ∧ (LV Ic Ir → LV I1 I2) := fun q1 q2 => by
    unfold f122_0 at q1
    unfold f205_185 at q2
    cases q1
    cases q2
    exact ⟨rfl, RQ_st h, upX (fun o k q _ _ _ _ _ _ _ _ => tup_ne (by omega)) (tup_ne (by omega)) (fun k _ => tup_ne (by omega)) (tup_ne (by omega)), fun hl => ⟨by rw [tup_ne (by omega), tup_ne (by omega)]; exact hl.1, fun z j hj => by rw [tup_ne (by omega)] at z; rw [tup_ne (by omega), tup_ne (by omega)]; exact hl.2 z j hj⟩⟩
  unfold f194_0 at hc
  unfold f346_185 at hr
  rw [f127_is, z0, z9] at hc
  rw [e1, z0, z9] at hr
  dsimp only at hc hr
  by_cases hx1 : 0 ≤ x.toInt ∧ x.toInt ≤ 9999
  · obtain ⟨d, hd, rfl⟩ := nat_i hx1.1
    rw [oi_int hd] at hx1
    rw [if_pos (by rw [oi_int hd]; exact hx1), n10, cond_true] at hc hr
    rcases hx.1 with ⟨x1, x2⟩ | ⟨x1, P', S', B', E, ⟨p1, p2, p3⟩, ⟨p4, p5, p6⟩, hE⟩
    · have x1 : Ic 26 0 = 0 := x1
      have x2 : Ir 186 8 = -1 := x2
      rw [x1, n00, cond_false] at hc
      rw [x2, show xcmp .ne (-1 : Int32) (-1) = false from rfl, cond_false] at hr
      cases hc
      cases hr
      exact rej rfl rfl
    · have x1 : Ic 26 0 = 1 := x1
      have p4 : Ic 12 0 = Int32.ofNat P' := p4
      have p5 : Ic 21 0 = Int32.ofNat S' := p5
      have hE8 : Ir 186 8 = Int32.ofNat E := hE.2.2.1
      have hE60 : E ≤ 60 := hE.1
      rw [x1, n10, cond_true] at hc
      rw [hE8, xc_ne (oi_m1 (by omega)), cond_true] at hr
      obtain ⟨⟨P, S, B, W, D, s, hW⟩, hm⟩ := id h
      obtain ⟨rfl, rfl, rfl⟩ : P = P' ∧ S = S' ∧ B = B' := by
        obtain ⟨⟨⟨⟨g1, g2, g3⟩, -, -⟩, ⟨-, -, a3, -, a5, a6⟩, -⟩, -⟩ := id hW
        exact ⟨oi_inj (by omega) (by omega) (a3.symm.trans p4), oi_inj (by omega) (by omega) (a5.symm.trans p5), oi_inj (by omega) (by omega) (a6.symm.trans p6)⟩
      replace hc := obU hc
      obtain ⟨_, I4, J4, e4, hc⟩ := hc
      replace hr := obU hr
      obtain ⟨_, I5, J5, e5, hr⟩ := hr
      obtain ⟨⟨s2, q1⟩, ⟨rfl, rfl⟩, q3, ⟨t1, t2, t3, t4⟩, q5, q6, q7⟩ := run_rel hW hE hf (by omega) e4 e5
      cases e6 : f346_185_l43 N' N' I5 J5 0 with
      | none => rw [e6] at hr; cases hr
      | some Y =>
      obtain ⟨y1, y2, y3⟩ := told_run N' 0 (by omega) (fun i hi => absurd hi (by omega)) e6
      obtain ⟨y4, I6, J6⟩ := Y
      rw [e6] at hr
      dsimp only at hr y1 y2 y3
      subst y1
      unfold f206_185 at hr
      cases hr
      -- the class's last words
      have cl : ∃ y : Int32, I5 201 4 = y ∧ v = I4 67 0 ∧ J1 = J4 ∧ I1 = tup (tup (tup (tup (tup (tup (tup I4 93 0 (I4 67 1)) 93 1 (I4 67 2)) 93 2 (I4 67 3)) 93 3 (I4 67 4)) 93 4 y) 0 17 1) 0 5 0 := by
        unfold f121_0 at hc
        rcases q5 with ⟨c5, c6⟩ | ⟨c5, c6⟩
        · rw [c5, show xcmp .eq (0 : Int32) 0 = true from rfl, cond_true] at hc
          dsimp only at hc
          cases hc
          exact ⟨0, c6, rfl, rfl, rfl⟩
        · rw [c5, show xcmp .eq (1 : Int32) 0 = false from rfl, cond_false] at hc
          dsimp only at hc
          cases hc
          exact ⟨1, c6, rfl, rfl, rfl⟩
      obtain ⟨y, hy, rfl, rfl, rfl⟩ := cl
      have f1 : ∀ o k, 10 ≤ o → o ≠ 93 → tup (tup (tup (tup (tup (tup (tup I4 93 0 (I4 67 1)) 93 1 (I4 67 2)) 93 2 (I4 67 3)) 93 3 (I4 67 4)) 93 4 y) 0 17 1) 0 5 0 o k = I4 o k := fun o k z1 z2 => by
        rw [tup_ne (by omega), tup_ne (by omega), tup_ne (by omega), tup_ne (by omega), tup_ne (by omega), tup_ne (by omega), tup_ne (by omega)]
      have f12 : tup (tup (tup (tup (tup (tup (tup I4 93 0 (I4 67 1)) 93 1 (I4 67 2)) 93 2 (I4 67 3)) 93 3 (I4 67 4)) 93 4 y) 0 17 1) 0 5 0 0 12 = Ic 0 12 := by
        rw [tup_ne (by omega), tup_ne (by omega), tup_ne (by omega), tup_ne (by omega), tup_ne (by omega), tup_ne (by omega), tup_ne (by omega)]
        exact q6 0 12 (by omega) (by omega) (by omega) (by omega) (by omega) (by omega) (by omega)
      have g1 : ∀ o k, o ≠ 202 → ¬ (o = 185 ∧ (k = 35 ∨ k = 2)) → tup (tup I6 185 35 1) 185 2 0 o k = I5 o k := fun o k z1 z2 => by
        rw [tup_ne (by omega), tup_ne (by omega)]
        exact y2 o k z1
      have g36 : tup (tup I6 185 35 1) 185 2 0 185 36 = Ir 185 36 := (g1 185 36 (by omega) (by omega)).trans (q7 185 36 (by omega) (by omega) (by omega) (by omega))
      refine ⟨?_, ⟨⟨P, S, B, W, D, s2, WPQ_67 q1 (fun o k z1 z2 => f1 o k (by omega) (by omega)) (fun k => g1 186 k (by omega) (by omega))⟩, MV_cp CPQ hm (fun o k z => ⟨?_, rfl⟩) f12 (fun k z => ?_) (fun _ _ => rfl) g36⟩, upX (fun o k z1 z2 z3 z4 z5 z6 z7 z8 z9 => ?_) f12 (fun k z => ?_) g36, fun _ => ⟨?_, fun _ j hj => ?_⟩⟩
      · exact q3.trans (y2 185 31 (by omega)).symm
      · (try dsimp only)
        rw [f1 o k (by omega) (by omega)]
        exact q6 o k (by omega) (by omega) (by omega) (by omega) (by omega) (by omega) (by omega)
      · (try dsimp only)
        rw [g1 _ _ (by omega) (by omega)]
        exact q7 _ _ (by omega) (by omega) (by omega) (by omega)
      · (try dsimp only)
        rw [f1 o k (by omega) (by omega)]
        exact q6 o k z7 z8 z2 z3 z4 z5 z6
      · (try dsimp only)
        rw [g1 _ _ (by omega) (by omega)]
        exact q7 _ _ (by omega) (by omega) (by omega) (by omega)
      · (try dsimp only)
        rw [tup_ne (by omega), tup_eq, tup_ne (by omega), tup_eq]
      · (try dsimp only)
        refine Eq.trans ?_ (show I5 201 j = tup (tup I6 185 35 1) 185 2 0 202 j by rw [tup_ne (by omega), tup_ne (by omega)]; exact (y3 j hj).symm)
        rw [tup_ne (by omega), tup_ne (by omega)]
        rcases (by omega : j = 0 ∨ j = 1 ∨ j = 2 ∨ j = 3 ∨ j = 4) with rfl | rfl | rfl | rfl | rfl
        · rw [tup_ne (by omega), tup_ne (by omega), tup_ne (by omega), tup_ne (by omega), tup_eq]; exact t1
        · rw [tup_ne (by omega), tup_ne (by omega), tup_ne (by omega), tup_eq]; exact t2
        · rw [tup_ne (by omega), tup_ne (by omega), tup_eq]; exact t3
        · rw [tup_ne (by omega), tup_eq]; exact t4
        · rw [tup_eq]; exact hy.symm
  · rw [if_neg hx1, n00, cond_false] at hc hr
    cases hc
    cases hr
    exact rej rfl rfl
end LV6
