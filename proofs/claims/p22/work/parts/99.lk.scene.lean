/-! scene(n), both ways -/
section SC
variable {N N' : Nat} {Ic Ir I1 I2 : tI} {Jc Jr J1 J2 : tJ} {v w : Int32}
/-- the persons begin -/
theorem f11_run {P : Nat} {J : tJ} (hP : P ≤ 5) : ∀ (k p : Nat) {I : tI} {Y : Int32 × tI × tJ}, p ≤ P → I 38 0 = Int32.ofNat P → f11_38_l7 N k I J (Int32.ofNat p) = some Y → Y.2.2 = J ∧ (∀ i, p ≤ i → i < P → Y.2.1 45 i = (if I 41 i = 0 then 1 else 0) ∧ Y.2.1 46 i = I 40 i) ∧ ∀ o i, ¬ ((o = 45 ∨ o = 46) ∧ p ≤ i ∧ i < P) → Y.2.1 o i = I o i
  | 0, _, _, _, _, _, h => by cases h
  | k + 1, p, I, Y, hp, h0, h => by
    simp only [f11_38_l7] at h
    rw [h0, oi_ge (by omega) (by omega)] at h
    by_cases hpe : P ≤ p
    · rw [decide_eq_true hpe, cond_true] at h
      cases h
      exact ⟨rfl, fun i a b => absurd a (by omega), fun _ _ _ => rfl⟩
    · rw [decide_eq_false hpe, cond_false, oi_nat (by omega), oi_suc (by omega)] at h
      have go : ∀ x : Int32, x = (if I 41 p = 0 then 1 else 0) → f11_38_l7 N k (tup (tup I 45 p x) 46 p (I 40 p)) J (Int32.ofNat (p + 1)) = some Y → Y.2.2 = J ∧ (∀ i, p ≤ i → i < P → Y.2.1 45 i = (if I 41 i = 0 then 1 else 0) ∧ Y.2.1 46 i = I 40 i) ∧ ∀ o i, ¬ ((o = 45 ∨ o = 46) ∧ p ≤ i ∧ i < P) → Y.2.1 o i = I o i := fun x hx q => by
        obtain ⟨a, b, c⟩ := f11_run hP k (p + 1) (by omega) (by rw [tup_ne (by omega), tup_ne (by omega)]; exact h0) q
        refine ⟨a, fun i h1 h2 => ?_, fun o i hn => ?_⟩
        · by_cases e : i = p
          · subst e
            rw [c 45 _ (by omega), c 46 _ (by omega), tup_ne (by omega), tup_eq, tup_eq]
            exact ⟨hx, rfl⟩
          · have := b i (by omega) h2
            rw [tup_ne (by omega), tup_ne (by omega), tup_ne (by omega), tup_ne (by omega)] at this
            exact this
        · rw [c o i (by omega), tup_ne (by omega), tup_ne (by omega)]
      by_cases e : I 41 p = 0
      · rw [xc_nen e, cond_false] at h
        exact go 1 (by rw [if_pos e]) h
      · rw [xc_ne e, cond_true] at h
        exact go 0 (by rw [if_neg e]) h
theorem f11_is {P : Nat} {I : tI} {J : tJ} {q : Unit × tI × tJ} (hP : P ≤ 5) (h0 : I 38 0 = Int32.ofNat P) (h : f11_38 N I J = some q) : q.2.2 = J ∧ q.2.1 38 1 = 0 ∧ (∀ i, i < P → q.2.1 45 i = (if I 41 i = 0 then 1 else 0) ∧ q.2.1 46 i = I 40 i) ∧ ∀ o i, ¬ ((o = 45 ∨ o = 46) ∧ i < P) → ¬ (o = 38 ∧ i = 1) → q.2.1 o i = I o i := by
  unfold f11_38 at h
  cases e : f11_38_l7 N N (tup I 38 1 0) J 0 with
  | none => rw [e] at h; cases h
  | some Y =>
  have z0 : f11_38_l7 N N (tup I 38 1 0) J (Int32.ofNat 0) = some Y := e
  obtain ⟨a, b, c⟩ := f11_run hP N 0 (by omega) (by rw [tup_ne (by omega)]; exact h0) z0
  obtain ⟨y1, I1, J1⟩ := Y
  rw [e] at h
  dsimp only at h a b c
  cases h
  dsimp only
  refine ⟨a, by rw [c _ _ (by omega), tup_eq], fun i hi => ?_, fun o i hn hm => by rw [c _ _ (by omega), tup_ne (by omega)]⟩
  have := b i (by omega) hi
  rw [tup_ne (by omega), tup_ne (by omega)] at this
  exact this
/-- a draft read and begun is a world -/
theorem WK_RD {P S B W D : Nat} {q : Unit × tI × tJ} (hD : RD P S B W D Ic Jc Ir Jr) (h : f11_38 N Ic Jc = some q) : WK 36 2480 60 q.2.1 q.2.2 Ir Jr := by
  obtain ⟨⟨⟨gc, ⟨c1, c2, c3⟩, c4, c5, c6⟩, g2⟩, ⟨⟨gw, ⟨w1, w2, w3, w4⟩, w5, w6⟩, -, g5⟩, ⟨g6, -⟩, ⟨g8, g9⟩, ⟨z1, ⟨z2, z3, z4, z5⟩, z6, z7, z8⟩⟩ := hD
  obtain ⟨a1, a2, a3, a4⟩ := f11_is gc.1 c1 h
  obtain ⟨u, I1, J1⟩ := q
  dsimp only at a1 a2 a3 a4 ⊢
  subst a1
  have k : ∀ o i, o ≠ 45 → o ≠ 46 → ¬ (o = 38 ∧ i = 1) → I1 o i = Ic o i := fun o i q1 q2 q3 => a4 o i (by omega) q3
  refine ⟨P, S, B, W, D, 0, ⟨⟨gc, gw, by omega⟩, ⟨?_, ?_, ?_, a2, ?_, ?_⟩, ⟨w3, w4, c4, c5, c6, z7⟩, ?_, ?_⟩, fun r c hr hc => ?_, fun p hp => ?_, fun i hi => ?_, fun x hx => ?_, fun k' hk => ?_, g2, Or.inl ⟨?_, z8⟩⟩
  · show I1 37 0 = _
    rw [k _ _ (by omega) (by omega) (by omega)]; exact w1
  · show I1 37 1 = _
    rw [k _ _ (by omega) (by omega) (by omega)]; exact w2
  · show I1 38 0 = _
    rw [k _ _ (by omega) (by omega) (by omega)]; exact c1
  · show I1 47 0 = _
    rw [k _ _ (by omega) (by omega) (by omega)]; exact c2
  · rw [k _ _ (by omega) (by omega) (by omega)]; exact c3
  · rw [k _ _ (by omega) (by omega) (by omega)]; exact w5
  · rw [k _ _ (by omega) (by omega) (by omega)]; exact w6
  · exact g5 r c hr hc
  · obtain ⟨p1, p2, ⟨m, m1, m8, p3, p4, p5⟩, p6, p7⟩ := g6 p hp
    obtain ⟨b1, b2⟩ := a3 p hp
    show RCw W D (I1 40 p) (Ir 186 (2520 + 14 * p)) ∧ (I1 41 p = Ir 186 (2520 + 14 * p + 1) ∧ I1 42 p = Ir 186 (2520 + 14 * p + 2)) ∧ (∃ m, 1 ≤ m ∧ m ≤ 8 ∧ I1 43 p = Int32.ofNat m ∧ Ir 186 (2520 + 14 * p + 3) = Int32.ofNat m ∧ ∀ k, k < m → I1 44 (8 * p + k) = Ir 186 (2520 + 14 * p + 6 + k)) ∧ STp 0 (I1 42 p) (I1 45 p) (Ir 186 (2520 + 14 * p + 4)) ∧ RCw W D (I1 46 p) (Ir 186 (2520 + 14 * p + 5))
    rw [show 2520 + 14 * p + 1 = 2521 + 14 * p by omega, show 2520 + 14 * p + 2 = 2522 + 14 * p by omega, show 2520 + 14 * p + 3 = 2523 + 14 * p by omega, show 2520 + 14 * p + 4 = 2524 + 14 * p by omega, show 2520 + 14 * p + 5 = 2525 + 14 * p by omega, k 40 _ (by omega) (by omega) (by omega), k 41 _ (by omega) (by omega) (by omega), k 42 _ (by omega) (by omega) (by omega), k 43 _ (by omega) (by omega) (by omega), b1, b2, p6, p7]
    refine ⟨p1, p2, ⟨m, m1, m8, p3, p4, fun k' hk => ?_⟩, Or.inl ⟨by rw [p2.1], ?_⟩, p1⟩
    · rw [k 44 _ (by omega) (by omega) (by omega), show 2520 + 14 * p + 6 + k' = 2526 + 14 * p + k' by omega]
      exact p5 k' hk
    · split
      · exact Or.inr (Or.inl rfl)
      · exact Or.inl rfl
  · have := g8 i hi
    show I1 49 i = Ir 186 (2590 + 3 * i) ∧ ((I1 49 i = 2 ∧ I1 50 i = -1 ∧ I1 51 i = -1) ∨ (I1 49 i = 0 ∧ I1 50 i = Ir 186 (2590 + 3 * i + 1) ∧ (∃ a, a < P ∧ I1 50 i = Int32.ofNat a) ∧ RCl (I1 51 i) (Ir 186 (2590 + 3 * i + 2))) ∨ (I1 49 i = 1 ∧ I1 50 i = Ir 186 (2590 + 3 * i + 1) ∧ I1 51 i = Ir 186 (2590 + 3 * i + 2) ∧ (∃ a, a < P ∧ I1 50 i = Int32.ofNat a) ∧ ∃ a, a < P ∧ I1 51 i = Int32.ofNat a))
    rw [show 2590 + 3 * i + 1 = 2591 + 3 * i by omega, show 2590 + 3 * i + 2 = 2592 + 3 * i by omega, k 49 _ (by omega) (by omega) (by omega), k 50 _ (by omega) (by omega) (by omega), k 51 _ (by omega) (by omega) (by omega)]
    exact this
  · show I1 58 x = _
    rw [k _ _ (by omega) (by omega) (by omega)]; exact g9 x hx
  · show I1 59 (k' + 1) = Ir 186 (2612 + k')
    rw [k _ _ (by omega) (by omega) (by omega), z1 _ (by omega), z6 _ hk]
  · show I1 52 0 = 0
    rw [k _ _ (by omega) (by omega) (by omega)]; exact z3
theorem f234_is {I : tI} {J : tJ} {x : Int32} : f234_185 I J x = (if (I 185 18).toInt ≤ 0 then (x, tup (tup I 185 16 (I 185 18)) 185 2 0, J) else (-1, tup (tup I 185 16 (I 185 18)) 185 2 9, J)) := by
  unfold f234_185 f206_185 f205_185
  rw [tc_le, show (0 : Int32).toInt = 0 from rfl]
  by_cases h : (I 185 18).toInt ≤ 0
  · rw [decide_eq_true h, cond_true, if_pos h]
  · rw [decide_eq_false h, cond_false, if_neg h]
set_option maxHeartbeats 4000000 in
theorem scene_rel {a : Int32} {m : Nat} (hm : m ≤ 900) (h4 : Ic 0 4 = Int32.ofNat m) (h10 : Ir 185 10 = Int32.ofNat m) (ht : ∀ i, i < m → Ic 9 i = Ir 191 i) (hb : ∀ i, i < m → -128 ≤ (Ic 9 i).toInt ∧ (Ic 9 i).toInt ≤ 127) (hc : f143_0 N Ic Jc a = some (v, I1, J1)) (hr : f244_185 N' Ir Jr a = some (w, I2, J2)) : v = w ∧ ((I1 = tup Ic 0 5 1 ∧ J1 = Jc ∧ I2 = tup Ir 185 2 1 ∧ J2 = Jr) ∨ ((I1 0 4 = 0 ∧ I2 185 10 = 0 ∧ I1 0 8 = I2 185 16 ∧ I1 0 9 = I2 185 17) ∧ (((∀ o k, 10 ≤ o → o ≤ 34 → I1 o k = Ic o k ∧ J1 o k = Jc o k) ∧ (∀ k, k < 2480 → I2 186 k = Ir 186 k) ∧ ∀ k, k < 60 → J2 187 k = Jr 187 k) ∨ WK 10 0 0 I1 J1 I2 J2))) := by
  have z0 : (0 : Int32).toInt = 0 := rfl
  unfold f143_0 at hc
  rw [f127_is, h4, oi_int (by omega), z0] at hc
  dsimp only at hc
  unfold f244_185 at hr
  replace hr := obI hr
  obtain ⟨w1, Ia, Ja, b1, hr⟩ := hr
  unfold f226_185 at b1
  rw [h10, tc_lt, z0, tc_gt, oi_int (by omega), tc_le, show (900 : Int32).toInt = 900 from rfl] at b1
  by_cases hin : 0 ≤ a.toInt ∧ a.toInt ≤ m
  · obtain ⟨n, hn, rfl⟩ : ∃ n, n ≤ m ∧ a = Int32.ofNat n := ⟨a.toInt.toNat, by omega, natI hin.1⟩
    rw [if_pos hin, n10, cond_true] at hc
    rw [decide_eq_false (by omega), cond_false, decide_eq_false (by omega), cond_false, decide_eq_true (by omega), cond_true] at b1
    replace hc := obI hc
    obtain ⟨v3, I3, J3, e3, hc⟩ := hc
    have frA := f75_35_frA e3
    unfold f75_35 at e3
    replace e3 := obU e3
    obtain ⟨u1, Ib, Jb, c1, e3⟩ := e3
    replace e3 := obU e3
    obtain ⟨u2, Id, Jd, c2, e3⟩ := e3
    have fr1 := f104_36_frA c1
    obtain ⟨k1, ⟨y1, y2, y3, y4, y5, y6, y7, y8, y9, y10, y11⟩, y12⟩ := f104_is c1
    dsimp only at k1 y1 y2 y3 y4 y5 y6 y7 y8 y9 y10 y11 y12
    have T1 : ∀ i, i < 1000 → (fun i => if i < 1000 then Ic 9 i else Ir 186 (i - 1000)) i = Ic 9 i := fun i hi => if_pos hi
    have T2 : ∀ k, (fun i => if i < 1000 then Ic 9 i else Ir 186 (i - 1000)) (1000 + k) = Ir 186 k := fun k => by
      show (if 1000 + k < 1000 then Ic 9 (1000 + k) else Ir 186 (1000 + k - 1000)) = Ir 186 k
      rw [if_neg (by omega), show 1000 + k - 1000 = k by omega]
    generalize (fun i => if i < 1000 then Ic 9 i else Ir 186 (i - 1000)) = t at T1 T2
    have hbt : byt t n := fun i hi => by rw [T1 i (by omega)]; exact hb i (by omega)
    obtain ⟨rfl, hR, fI, ⟨qa, qb⟩, gj, rfl, fR, x10, x17, x18⟩ := begin_rel (t := t) (by omega) hbt (by rw [tup_ne (by omega), fr1.1 0 4 rfl, tup_eq]) (fun i hi => by rw [tup_ne (by omega), fr1.1 9 i rfl, tup_ne (by omega), T1 i (by omega)]) (fun i hi => by rw [T1 i (by omega)]; exact (ht i (by omega)).symm) (fun k hk => (T2 k).symm) c2 b1
    rw [n10, cond_true] at hr
    replace hr := obU hr
    obtain ⟨u3, Ie, Je, b2, hr⟩ := hr
    have b2' : f200_185 N' Ia Ja (Int32.ofNat 2480) = some (u3, Ie, Je) := b2
    obtain ⟨p1, ⟨p2, p3, p4⟩, p5, p6, p7⟩ := f200_is (by omega) b2'
    dsimp only at p1 p2 p3 p4 p5 p6 p7
    subst p1
    cases e5 : f75_35_l24 N N Id Jd 1 0 with
    | none => rw [e5] at e3; cases e3
    | some Y =>
    cases e6 : f244_185_l31 N' N' (tup Ie 185 20 0) Je 1 with
    | none => rw [e6] at hr; cases hr
    | some Y' =>
    have hR' : R0 t n ((0 : Nat) : Int) Id Jd (tup Ie 185 20 0) := R0_cg hR (fun _ _ => rfl) (fun _ _ _ => rfl) rfl (fun k _ _ => by rw [tup_ne (by omega), p7 _ _ (by omega)]) (fun o k ho => by rw [tup_ne (by omega), p7 _ _ (by omega)])
    have cI : ∀ o k, 35 ≤ o → Id o k = (tup Ib 35 2 0) o k := fun o k ho => fI o k (by omega)
    have z6 : ∀ k, k < 620 → k ≠ 6 → k ≠ 7 → k ≠ 8 → ¬ (132 ≤ k ∧ k < 252) → (tup Ie 185 20 0) 186 (2480 + k) = 0 := fun k q1 q2 q3 q4 q5 => by rw [tup_ne (by omega)]; exact p6 k q1 q2 q3 q4 q5
    have hD : RD 0 0 0 0 0 Id Jd (tup Ie 185 20 0) Je := by
      refine ⟨⟨⟨by omega, ⟨?_, ?_, ?_⟩, z6 2 (by omega) (by omega) (by omega) (by omega) (by omega), z6 3 (by omega) (by omega) (by omega) (by omega) (by omega), z6 4 (by omega) (by omega) (by omega) (by omega) (by omega)⟩, ⟨fun p hp => by omega, fun p hp => by omega, fun p hp => by omega⟩⟩, ⟨⟨by omega, ⟨?_, ?_, z6 0 (by omega) (by omega) (by omega) (by omega) (by omega), z6 1 (by omega) (by omega) (by omega) (by omega) (by omega)⟩, ?_, ?_⟩, ⟨?_, ?_⟩, fun r c hr' hc' => ?_⟩, ⟨fun p hp => by omega, fun p h1 h2 => ⟨?_, ?_⟩⟩, ⟨fun p hp => by omega, fun p hp => by omega⟩, ⟨fun k hk => ?_, ⟨?_, ?_, ?_, ?_⟩, fun k hk => ?_, z6 5 (by omega) (by omega) (by omega) (by omega) (by omega), ?_⟩⟩
      · rw [cI _ _ (by omega), tup_ne (by omega)]; exact y3
      · rw [cI _ _ (by omega), tup_ne (by omega)]; exact y5
      · rw [cI _ _ (by omega), tup_ne (by omega)]; exact y8
      · rw [cI _ _ (by omega), tup_ne (by omega)]; exact y1
      · rw [cI _ _ (by omega), tup_ne (by omega)]; exact y2
      · rw [cI _ _ (by omega), tup_ne (by omega), y6, tup_ne (by omega)]; exact p2.symm
      · rw [cI _ _ (by omega), tup_ne (by omega), y7, tup_ne (by omega)]; exact p3.symm
      · rw [tup_eq]; decide
      · rw [tup_eq, cI _ _ (by omega), tup_eq]; decide
      · rw [show 2490 + (6 * r + c) = 2480 + (10 + (6 * r + c)) by omega, z6 _ (by omega) (by omega) (by omega) (by omega) (by omega), gj 37 2 (by omega), k1, tup_eq, if_neg]
        show ¬ wb 0 (10 * r + c) = true
        unfold wb
        rw [show (0 : Int64).toBitVec = 0#64 from rfl, BitVec.getLsbD_zero]
        decide
      · rw [show 2521 + 14 * p = 2480 + (41 + 14 * p) by omega]; exact z6 _ (by omega) (by omega) (by omega) (by omega) (by omega)
      · rw [show 2523 + 14 * p = 2480 + (43 + 14 * p) by omega]; exact z6 _ (by omega) (by omega) (by omega) (by omega) (by omega)
      · rw [cI _ _ (by omega), tup_ne (by omega)]; exact y12 k hk
      · rw [cI _ _ (by omega), tup_ne (by omega)]; exact y4
      · rw [cI _ _ (by omega), tup_ne (by omega)]; exact y9
      · rw [cI _ _ (by omega), tup_ne (by omega)]; exact y10
      · rw [cI _ _ (by omega), tup_ne (by omega)]; exact y11
      · rw [tup_ne (by omega)]; exact p5 k hk
      · rw [tup_ne (by omega)]; exact p4
    obtain ⟨hl, hN⟩ := loop_rel N 0 N' hR' ⟨0, 0, 0, 0, 0, hD⟩ e5 e6
    obtain ⟨ya, yb, If, Jf⟩ := Y
    obtain ⟨yc, Ig, Jg⟩ := Y'
    rw [e5] at e3
    rw [e6] at hr
    dsimp only at e3 hr hl hN
    unfold f244_185_j50 at hr
    unfold f145_0 at hc
    dsimp only at hc
    rcases hl with ⟨rfl, rfl, r1, r2, r3, ⟨r4, r4'⟩, r5⟩ | ⟨rfl, rfl, ⟨r1, ⟨⟨r2, r2'⟩, r3⟩, r4, r5, r6⟩, P, S, B, W, D, hD2⟩
    · rw [q00, cond_true] at e3
      cases e3
      rw [n00, cond_false] at hc
      unfold f122_0 at hc
      dsimp only at hc
      cases hc
      have hne : Ig 185 18 ≠ 0 := fun q => by rw [q] at r2; exact absurd r2 (by decide)
      rw [xc_ne hne, cond_true, f234_is, if_neg (by omega)] at hr
      dsimp only at hr
      cases hr
      refine ⟨rfl, Or.inr ⟨⟨?_, ?_, ?_, ?_⟩, Or.inl ⟨fun o k q1 q2 => ⟨?_, ?_⟩, fun k hk => ?_, hN⟩⟩⟩
      · rw [tup_ne (by omega), tup_ne (by omega), tup_ne (by omega)]; exact r4
      · rw [tup_ne (by omega), tup_ne (by omega)]; exact r4'
      · rw [tup_ne (by omega), tup_ne (by omega), tup_eq, tup_ne (by omega), tup_eq]; exact r1
      · rw [tup_ne (by omega), tup_eq, tup_ne (by omega), tup_ne (by omega)]; exact r3
      · have hp : qfIA o k = false := by
          show (Nat.beq o 8 || (Nat.ble 35 o && Nat.ble o 59)) = false
          rw [show Nat.beq o 8 = false from Bool.eq_false_iff.mpr (fun q => by have := Nat.eq_of_beq_eq_true q; omega), show Nat.ble 35 o = false from Bool.eq_false_iff.mpr (fun q => absurd (Nat.le_of_ble_eq_true q) (by omega))]
          rfl
        rw [tup_ne (by omega), tup_ne (by omega), tup_ne (by omega), frA.1 o k hp, tup_ne (by omega)]
      · have hp : qfJA o k = false := by
          show (Nat.beq o 8 || (Nat.ble 35 o && Nat.ble o 59)) = false
          rw [show Nat.beq o 8 = false from Bool.eq_false_iff.mpr (fun q => by have := Nat.eq_of_beq_eq_true q; omega), show Nat.ble 35 o = false from Bool.eq_false_iff.mpr (fun q => absurd (Nat.le_of_ble_eq_true q) (by omega))]
          rfl
        exact frA.2 o k hp
      · rw [tup_ne (by omega), tup_ne (by omega), r5 k hk]
        exact T2 k
    · rw [q10, cond_false] at e3
      replace e3 := obU e3
      obtain ⟨u4, Ih, Jh, e7, e3⟩ := e3
      cases e3
      have hW := WK_RD hD2 e7
      dsimp only at hW
      rw [n10, cond_true] at hc
      generalize e8 : f105_10_36 (tup (tup I3 0 8 (I3 8 9)) 0 9 (I3 8 10)) J3 = q8 at hc
      obtain ⟨u5, Ii, Ji⟩ := q8
      dsimp only at hc
      unfold f121_0 at hc
      dsimp only at hc
      cases hc
      obtain ⟨t1, t2, t3⟩ := take_10_36 e8
      rw [xc_nen r1, cond_false] at hr
      cases e9 : f244_185_l59 N' N' Ig Jg 0 with
      | none => rw [e9] at hr; cases hr
      | some Y1 =>
      have z9 : f244_185_l59 N' N' Ig Jg (Int32.ofNat 0) = some Y1 := e9
      obtain ⟨s1, s2, s3⟩ := f244_185_l59_run N' 0 (by omega) z9
      obtain ⟨yd, Ij, Jj⟩ := Y1
      rw [e9] at hr
      dsimp only at hr s1 s2 s3
      subst s1
      cases e10 : f244_185_l90 N' N' Ij Jj 0 with
      | none => rw [e10] at hr; cases hr
      | some Y2 =>
      have z10 : f244_185_l90 N' N' Ij Jj (Int32.ofNat 0) = some Y2 := e10
      obtain ⟨l1, l2, l3⟩ := f244_185_l90_run N' 0 (by omega) z10
      obtain ⟨ye, Ik, Jk⟩ := Y2
      rw [e10] at hr
      dsimp only at hr l1 l2 l3
      subst l1
      have f18 : Ik 185 18 = 0 := by rw [s3 _ _ (by omega)]; exact r1
      rw [f234_is, f18, if_pos (by decide)] at hr
      dsimp only at hr
      cases hr
      have e11 := f11_is hD2.1.1.1.1 hD2.1.1.2.1.1 e7
      dsimp only at e11
      have i21 : Ii 21 0 = Ik 186 3 := by
        have a1 : Ii 21 0 = (tup (tup I3 0 8 (I3 8 9)) 0 9 (I3 8 10)) 47 0 := t1 11 0 (by unfold cpI; omega)
        rw [a1, tup_ne (by omega), tup_ne (by omega), e11.2.2.2 _ _ (by omega) (by omega), hD2.1.1.2.1.2.1, s2 3 (by omega) (by omega), hD2.1.1.2.2.2.1]
      refine ⟨i21, Or.inr ⟨⟨?_, ?_, ?_, ?_⟩, Or.inr ?_⟩⟩
      · rw [tup_ne (by omega), (t3 _ _ (by omega)).1, tup_ne (by omega), tup_ne (by omega), e11.2.2.2 _ _ (by omega) (by omega)]; exact r2
      · rw [tup_ne (by omega), tup_ne (by omega), s3 _ _ (by omega)]; exact r2'
      · rw [tup_ne (by omega), (t3 _ _ (by omega)).1, tup_ne (by omega), tup_eq, e11.2.2.2 _ _ (by omega) (by omega), tup_ne (by omega), tup_eq, r5]
      · rw [tup_ne (by omega), (t3 _ _ (by omega)).1, tup_eq, e11.2.2.2 _ _ (by omega) (by omega), tup_ne (by omega), tup_ne (by omega), s3 _ _ (by omega), r6, r4]
      · refine WK_cp hW (fun j k hk => ?_) (fun j k hk => ?_) (fun k hk => ?_) (fun k hk => ?_)
        · have hj : j ≤ 23 := by
            unfold cpI at hk
            omega
          rw [tup_ne (by omega), t1 j k hk, tup_ne (by omega), tup_ne (by omega)]
        · exact t2 j k hk
        · rw [tup_ne (by omega), tup_ne (by omega), Nat.zero_add, s2 k (by omega) (by omega)]
        · rw [Nat.zero_add, l2 k (by omega) hk]
  · have bad : ∀ x : Option (Int32 × tI × tJ), x = some (w1, Ia, Ja) → x = some (0, Ir, Jr) → w1 = 0 ∧ Ia = Ir ∧ Ja = Jr := fun x q1 q2 => by
      rw [q1] at q2
      cases q2
      exact ⟨rfl, rfl, rfl⟩
    have hw : w1 = 0 ∧ Ia = Ir ∧ Ja = Jr := by
      by_cases q : a.toInt < 0
      · rw [decide_eq_true q, cond_true] at b1
        cases b1
        exact ⟨rfl, rfl, rfl⟩
      · rw [decide_eq_false q, cond_false, decide_eq_true (by omega), cond_true] at b1
        cases b1
        exact ⟨rfl, rfl, rfl⟩
    obtain ⟨rfl, rfl, rfl⟩ := hw
    rw [if_neg hin, n00, cond_false] at hc
    rw [n00, cond_false] at hr
    unfold f122_0 at hc
    unfold f205_185 at hr
    dsimp only at hc hr
    cases hc
    cases hr
    exact ⟨rfl, Or.inl ⟨rfl, rfl, rfl, rfl⟩⟩
end SC
