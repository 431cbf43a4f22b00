section RU8
variable {N N' P S B W D E d a : Nat} {Ic Ir I1 I2 I : tI} {Jc Jr J1 J2 J : tJ} {v w : Int32} {u u' : Unit}
/-- a draft read to its end -/
theorem RN2_DR {st : Nat → Nat} (h : DR P S B 0 a E st Ic Ir) : RN2 61 2480 P S B E Ic Ir := by
  obtain ⟨⟨b1, b2, b3, b4⟩, ⟨e1, e2, e3, e4, e5, e6⟩, hrows, -, hNS⟩ := h
  refine ⟨b1, e3, e4, fun k hk => ?_, hNS⟩
  obtain ⟨z1, z2, z3⟩ := hrows k hk
  refine ⟨z1, fun q => ?_, fun q => z3 q⟩
  rcases z2 q with ⟨i, hi, -⟩ | z
  · omega
  · exact z
theorem NWn_of (h : WQ 10 0 0 Ic Jc Ir Jr) : ∃ P S B, NWn P S B Ic Jc Ir Jr := by
  obtain ⟨P, S, B, W, D, s, ⟨⟨g, -, -⟩, ⟨-, -, a3, -, a5, a6⟩, ⟨-, -, b3, b4, b5, -⟩, -⟩, -, -, -, -, -, ht1, ht2, ht3⟩ := h
  refine ⟨P, S, B, g, ⟨a3, a5, a6, b3, b4, b5⟩, ht1, fun i hi => ?_, fun x hx => ?_⟩
  · have := ht2 i hi
    rw [show 0 + 5 + i = 5 + i by omega] at this
    exact this
  · have := ht3 x hx
    rw [show 0 + 11 + x = 11 + x by omega] at this
    exact this
theorem runs_rel {x : Int32} {m : Nat} (hN : ∃ P S B, NWn P S B Ic Jc Ir Jr) (hX : RX 10 0 0 Ic Jc Ir Jr) (hm : m ≤ 900) (h4 : Ic 0 4 = Int32.ofNat m) (h10 : Ir 185 10 = Int32.ofNat m) (ht : ∀ i, i < m → Ic 9 i = Ir 191 i) (hb : ∀ i, i < m → -128 ≤ (Ic 9 i).toInt ∧ (Ic 9 i).toInt ≤ 127) (hc : f144_0 N Ic Jc x = some (v, I1, J1)) (hr : f250_185 N' Ir Jr x = some (w, I2, J2)) : v = w ∧ RX 10 0 0 I1 J1 I2 J2 ∧ ((I1 = tup Ic 0 5 1 ∧ I2 = tup Ir 185 2 1) ∨ (I1 0 8 = I2 185 16 ∧ I1 0 9 = I2 185 17)) := by
  have z0 : (0 : Int32).toInt = 0 := rfl
  unfold f144_0 at hc
  unfold f250_185 at hr
  replace hr := obI hr
  obtain ⟨w1, Ia, Ja, b1, hr⟩ := hr
  unfold f226_185 at b1
  rw [h10, tc_lt, z0, tc_gt, oi_int (by omega), tc_le, show (300 : Int32).toInt = 300 from rfl] at b1
  have hmin : (if 300 < Int32.ofNat m then (300 : Int32) else Int32.ofNat m).toInt = if 300 < m then 300 else (m : Int) := by
    by_cases q : 300 < m
    · rw [if_pos q, if_pos (Int32.lt_iff_toInt_lt.mpr (by rw [oi_int (by omega), show (300 : Int32).toInt = 300 from rfl]; omega))]
      rfl
    · rw [if_neg q, if_neg (fun z => by
        have := Int32.lt_iff_toInt_lt.mp z
        rw [oi_int (by omega), show (300 : Int32).toInt = 300 from rfl] at this
        omega), oi_int (by omega)]
  rw [f127_is, h4, hmin, z0] at hc
  dsimp only at hc
  have upX : ∀ {Ib Id : tI} {Jb Jd : tJ}, (∀ o k, 10 ≤ o → o ≤ 34 → Ib o k = Ic o k) → (∀ k, k < 2480 → Id 186 k = Ir 186 k) → RX 10 0 0 Ib Jb Id Jd := fun {Ib Id Jb Jd} q1 q2 => RX_cg hX (fun o k q => q1 _ _ (by omega) (by omega)) (fun k q => q2 _ (by omega))
  by_cases hin : 0 ≤ x.toInt ∧ x.toInt ≤ (if 300 < m then 300 else (m : Int))
  · have hin2 : 0 ≤ x.toInt ∧ x.toInt ≤ m ∧ x.toInt ≤ 300 := by
      refine ⟨hin.1, ?_⟩
      have := hin.2
      split at this <;> omega
    obtain ⟨n, hn, rfl⟩ : ∃ n, n ≤ m ∧ x = Int32.ofNat n := ⟨x.toInt.toNat, by omega, natI hin.1⟩
    rw [oi_int (by omega)] at hin2
    rw [if_pos hin, n10, cond_true] at hc
    rw [oi_int (p := n) (by omega), decide_eq_false (by omega), cond_false, decide_eq_false (by omega), cond_false, decide_eq_true (by omega), cond_true] at b1
    replace hc := obI hc
    obtain ⟨v3, I3, J3, e3, hc⟩ := hc
    have frH := f51_60_10_frH e3
    have hH : ∀ o k, o ≤ 59 → o ≠ 8 → ¬ (o = 0 ∧ k = 4) → I3 o k = Ic o k := fun o k q1 q2 q3 => by
      rw [frH.1 o k (by
        show (Nat.beq o 8 || (Nat.ble 60 o && Nat.ble o 66)) = false
        rw [show Nat.beq o 8 = false from Bool.eq_false_iff.mpr (fun q => by have := Nat.eq_of_beq_eq_true q; omega), show Nat.ble 60 o = false from Bool.eq_false_iff.mpr (fun q => absurd (Nat.le_of_ble_eq_true q) (by omega))]
        rfl), tup_ne q3]
    unfold f51_60_10 f71_61 at e3
    dsimp only at e3
    replace e3 := obU e3
    obtain ⟨u2, Id, Jd, c2, e3⟩ := e3
    have T1 : ∀ i, i < 1000 → (fun i => if i < 1000 then Ic 9 i else Ir 186 (i - 1000)) i = Ic 9 i := fun i hi => if_pos hi
    have T2 : ∀ k, (fun i => if i < 1000 then Ic 9 i else Ir 186 (i - 1000)) (1000 + k) = Ir 186 k := fun k => by
      show (if 1000 + k < 1000 then Ic 9 (1000 + k) else Ir 186 (1000 + k - 1000)) = Ir 186 k
      rw [if_neg (by omega), show 1000 + k - 1000 = k by omega]
    generalize (fun i => if i < 1000 then Ic 9 i else Ir 186 (i - 1000)) = t at T1 T2
    have hbt : byt t n := fun i hi => by rw [T1 i (by omega)]; exact hb i (by omega)
    obtain ⟨rfl, hR, fI, ⟨qa, qb⟩, gj, rfl, fR, x10, x17, x18⟩ := begin_rel (t := t) (by omega) hbt (by rw [tup_ne (by omega), tup_ne (by omega), tup_ne (by omega), tup_ne (by omega), tup_eq]) (fun i hi => by rw [tup_ne (by omega), tup_ne (by omega), tup_ne (by omega), tup_ne (by omega), tup_ne (by omega), T1 i (by omega)]) (fun i hi => by rw [T1 i (by omega)]; exact (ht i (by omega)).symm) (fun k hk => (T2 k).symm) c2 b1
    rw [n10, cond_true] at hr
    cases e5 : f51_60_10_l25 N N Id Jd 1 0 with
    | none => rw [e5] at e3; cases e3
    | some Y =>
    cases e6 : f250_185_l38 N' N' (tup (tup (tup Ia 186 2488 0) 185 22 0) 185 23 0) Ja 1 with
    | none => rw [e6] at hr; cases hr
    | some Y' =>
    have hR' : R0 t n ((0 : Nat) : Int) Id Jd (tup (tup (tup Ia 186 2488 0) 185 22 0) 185 23 0) := R0_cg hR (fun _ _ => rfl) (fun _ _ _ => rfl) rfl (fun k _ _ => by rw [tup_ne (by omega), tup_ne (by omega), tup_ne (by omega)]) (fun o k ho => by rw [tup_ne (by omega), tup_ne (by omega), tup_ne (by omega)])
    obtain ⟨P, S, B, hN⟩ := hN
    have cI : ∀ o k, o ≠ 8 → Id o k = tup (tup (tup (tup (tup Ic 0 4 0) 61 0 0) 61 1 0) 61 2 0) 60 3 0 o k := fun o k ho => fI o k (by omega)
    have hN' : NWn P S B Id Jd (tup (tup (tup Ia 186 2488 0) 185 22 0) 185 23 0) Ja := NWn_cg hN (fun o k q1 q2 => by rw [cI _ _ (by omega), tup_ne (by omega), tup_ne (by omega), tup_ne (by omega), tup_ne (by omega), tup_ne (by omega)]) gj (fun k hk => by rw [tup_ne (by omega), tup_ne (by omega), tup_ne (by omega)]; exact fR _ _ (by omega)) rfl
    have hD0 : DR P S B 0 0 0 (fun _ => 0) Id (tup (tup (tup Ia 186 2488 0) 185 22 0) 185 23 0) := by
      refine ⟨⟨by omega, by omega, by omega, by omega⟩, ⟨?_, tup_eq, ?_, ?_, ?_, ?_⟩, fun k hk => by omega, fun i hi => by omega, fun o o' e e' q1 q2 q3 _ _ _ _ _ => by omega⟩
      · rw [cI _ _ (by omega), tup_ne (by omega), tup_ne (by omega), tup_eq]; rfl
      · rw [cI _ _ (by omega), tup_ne (by omega), tup_eq]; rfl
      · rw [tup_ne (by omega), tup_ne (by omega), tup_eq]; rfl
      · rw [cI _ _ (by omega), tup_eq]; rfl
      · rw [tup_ne (by omega), tup_eq]; rfl
    have hl := rloop_rel (by omega) N 0 N' hR' ⟨0, 0, 0, _, hD0⟩ hN' e5 e6
    obtain ⟨ya, yb, If, Jf⟩ := Y
    obtain ⟨yc, Ig, Jg⟩ := Y'
    rw [e5] at e3
    rw [e6] at hr
    dsimp only at e3 hr hl
    unfold f51_60_10_j113 at e3
    unfold f250_185_j57 f250_185_j77 at hr
    unfold f145_0 at hc
    dsimp only at hc
    -- a text refused
    have bad : ∀ {It : tI}, f250_185_j77 N' It Jg = some (w, I2, J2) → v3 = 0 → (RF t I3 It) → v = w ∧ RX 10 0 0 I1 J1 I2 J2 ∧ ((I1 = tup Ic 0 5 1 ∧ I2 = tup Ir 185 2 1) ∨ (I1 0 8 = I2 185 16 ∧ I1 0 9 = I2 185 17)) := fun {It} hr hv ⟨r1, r2, r3, r4, r5⟩ => by
      rw [hv, n00, cond_false] at hc
      unfold f122_0 at hc
      dsimp only at hc
      cases hc
      unfold f250_185_j77 at hr
      have hne : It 185 18 ≠ 0 := fun q => by rw [q] at r2; exact absurd r2 (by decide)
      rw [xc_ne hne, cond_true, f234_is, if_neg (by omega)] at hr
      dsimp only at hr
      cases hr
      refine ⟨rfl, upX (fun o k q1 q2 => ?_) (fun k hk => ?_), Or.inr ⟨?_, ?_⟩⟩
      · rw [tup_ne (by omega), tup_ne (by omega), tup_ne (by omega)]; exact hH o k (by omega) (by omega) (by omega)
      · rw [tup_ne (by omega), tup_ne (by omega), r5 k hk]; exact T2 k
      · rw [tup_ne (by omega), tup_ne (by omega), tup_eq, tup_ne (by omega), tup_eq]; exact r1
      · rw [tup_ne (by omega), tup_eq, tup_ne (by omega), tup_ne (by omega)]; exact r3
    rcases hl with ⟨rfl, rfl, hF⟩ | ⟨rfl, rfl, ⟨b, hR2⟩, d, a, E, st, hD⟩
    · rw [q00, cond_true] at e3
      cases e3
      have hF' : RF t (tup If 61 0 1) Ig := by
        obtain ⟨r1, r2, r3, ⟨r4, r4'⟩, r5⟩ := hF
        exact ⟨by rw [tup_ne (by omega)]; exact r1, r2, by rw [tup_ne (by omega)]; exact r3, ⟨by rw [tup_ne (by omega)]; exact r4, r4'⟩, r5⟩
      have hne : Ig 185 18 ≠ 0 := fun q => by have := hF.2.1; rw [q] at this; exact absurd this (by decide)
      refine bad (It := Ig) ?_ rfl hF'
      unfold f250_185_j77
      rcases bsp hr with ⟨-, hr⟩ | ⟨t1, hr⟩
      · exact hr
      · rw [xc_ne hne] at t1
        cases t1
    · rw [q10, cond_false] at e3
      obtain ⟨⟨d1, d2, d3, d4⟩, ⟨e1, e2, e7, e8, e9, e10⟩, -⟩ := id hD
      have z18 : Ig 185 18 = 0 := hR2.2.1
      rw [xc_nen z18, cond_false, e10, tc_le, oi_int (by omega), z0] at hr
      rw [e9] at e3
      by_cases hd : d = 0
      · subst hd
        rw [decide_eq_true (by omega), cond_true, cond_false] at hr
        rw [show xcmp .eq (Int32.ofNat 0) 0 = true from rfl, cond_true] at e3
        cases e3
        rw [n10, cond_true] at hc
        generalize e11 : f72_26_61 (tup (tup (tup If 61 0 1) 0 8 (tup If 61 0 1 8 9)) 0 9 (tup If 61 0 1 8 10)) J3 = q11 at hc
        obtain ⟨u5, Ii, Ji⟩ := q11
        dsimp only at hc
        obtain ⟨-, ⟨k0, k1, k2⟩, k3, k4⟩ := rtake e11
        unfold f121_0 at hc
        dsimp only at hc
        cases hc
        cases e12 : f250_185_l103 N' N' (tup Ig 186 8 (Ig 186 2488)) Jg 252 with
        | none => rw [e12] at hr; cases hr
        | some Y1 =>
        obtain ⟨s1, s2, s3⟩ := rcopy_run N' 252 (by omega) (by omega) e12
        obtain ⟨yd, Ij, Jj⟩ := Y1
        rw [e12] at hr
        dsimp only at hr s1 s2 s3
        have f18 : Ij 185 18 = 0 := by rw [s3 _ _ (by omega), tup_ne (by omega)]; exact z18
        rw [f234_is, f18, if_pos (by decide)] at hr
        dsimp only at hr
        cases hr
        have i3 : ∀ o k, o ≠ 0 → ¬ (o = 61 ∧ k = 0) → tup (tup (tup If 61 0 1) 0 8 (tup If 61 0 1 8 9)) 0 9 (tup If 61 0 1 8 10) o k = If o k := fun o k q1 q2 => by rw [tup_ne (by omega), tup_ne (by omega), tup_ne q2]
        have ii : ∀ o k, 10 ≤ o → o ≤ 34 → ¬ (26 ≤ o ∧ o ≤ 30) → tup Ii 0 5 0 o k = Ic o k := fun o k q1 q2 q3 => by
          rw [tup_ne (by omega), k4 o k q3, tup_ne (by omega), tup_ne (by omega)]
          exact hH o k (by omega) (by omega) (by omega)
        obtain ⟨-, ⟨n1, n2, n3, -⟩, -⟩ := id hN
        refine ⟨?_, Or.inr ⟨?_, P, S, B, E, hN.1, ⟨?_, ?_, ?_⟩, RN2_cp (RN2_DR hD) ?_ (fun o k q1 q2 q3 => ?_) (fun k q => ?_)⟩, Or.inr ⟨?_, ?_⟩⟩
        · rw [k1, i3 _ _ (by omega) (by omega), e1, s3 _ _ (by omega), tup_ne (by omega), e2]
        · show tup Ii 0 5 0 26 0 = 1
          rw [tup_ne (by omega), k0, tup_ne (by omega), tup_ne (by omega), tup_eq]
        · exact (ii 12 0 (by omega) (by omega) (by omega)).trans n1
        · exact (ii 21 0 (by omega) (by omega) (by omega)).trans n2
        · exact (ii 10 6 (by omega) (by omega) (by omega)).trans n3
        · show tup Ii 0 5 0 26 2 = If 61 2
          rw [tup_ne (by omega), k2, i3 _ _ (by omega) (by omega)]
        · show tup Ii 0 5 0 (26 + o) k = If (61 + o) k
          rw [tup_ne (by omega), k3 o k q1 q2 q3, i3 _ _ (by omega) (by omega)]
        · rw [tup_ne (by omega), tup_ne (by omega), Nat.zero_add]
          rcases q with rfl | q
          · rw [s3 _ _ (by omega), tup_eq]
          · rw [s2 k q.1 q.2, tup_ne (by omega)]
        · rw [tup_ne (by omega), k4 _ _ (by omega), tup_ne (by omega), tup_eq, tup_ne (by omega), tup_ne (by omega), tup_eq]
          exact hR2.2.2.2.2.2.1
        · rw [tup_ne (by omega), k4 _ _ (by omega), tup_eq, tup_ne (by omega), tup_ne (by omega), tup_ne (by omega), s3 _ _ (by omega), tup_ne (by omega), hR2.2.2.2.2.2.2, hR2.2.2.2.2.1]
      · rw [decide_eq_false (by omega), cond_false, f225_is z18] at hr
        rw [xc_eqn (y := 0) (fun q => hd (oi_inj (b := 0) (by omega) (by omega) q)), cond_false, f33_is] at e3
        dsimp only at hr e3
        rw [q00, cond_true] at e3
        cases e3
        have hR3 : R0 t n b (tup If 61 0 1) J3 Ig := R0_cg hR2 (fun k _ => tup_ne (by omega)) (fun o k ho => tup_ne (by omega)) rfl (fun _ _ _ => rfl) (fun _ _ _ => rfl)
        exact bad (by unfold f250_185_j77; exact hr) rfl (RF_of hR3 (by decide))
  · rw [if_neg hin, n00, cond_false] at hc
    have hin2 : ¬ (0 ≤ x.toInt ∧ x.toInt ≤ m ∧ x.toInt ≤ 300) := fun q => hin (by split <;> omega)
    have hw : w1 = 0 ∧ Ia = Ir ∧ Ja = Jr := by
      by_cases q : x.toInt < 0
      · rw [decide_eq_true q, cond_true] at b1
        cases b1
        exact ⟨rfl, rfl, rfl⟩
      · rw [decide_eq_false q, cond_false] at b1
        by_cases q2 : (m : Int) < x.toInt
        · rw [decide_eq_true q2, cond_true] at b1
          cases b1
          exact ⟨rfl, rfl, rfl⟩
        · rw [decide_eq_false q2, cond_false, decide_eq_false (by omega), cond_false] at b1
          cases b1
          exact ⟨rfl, rfl, rfl⟩
    obtain ⟨rfl, rfl, rfl⟩ := hw
    rw [n00, cond_false] at hr
    unfold f122_0 at hc
    unfold f205_185 at hr
    dsimp only at hc hr
    cases hc
    cases hr
    exact ⟨rfl, upX (fun o k q1 q2 => tup_ne (by omega)) (fun k _ => tup_ne (by omega)), Or.inl ⟨rfl, rfl⟩⟩
end RU8
