/-! RUNS READ: one entry -/
def SO (t : Nat → Int32) (n : Nat) (b : Int) (P S B : Nat) (Ic : tI) (Jc : tJ) (Ir : tI) (Jr : tJ) (v w : Int32) (I1 : tI) (J1 : tJ) (I2 : tI) (J2 : tJ) : Prop := OUT t v w I1 I2 (R0 t n (b + 1) I1 J1 I2 ∧ (∃ d a E st, DR P S B d a E st I1 I2) ∧ gJ Jc J1 ∧ J2 = Jr ∧ (∀ o k, 10 ≤ o → o ≤ 34 → I1 o k = Ic o k) ∧ ∀ k, k < 2480 → I2 186 k = Ir 186 k)
section RU4
variable {t : Nat → Int32} {n N N' P S B W D E d a : Nat} {st : Nat → Nat} {Ic Ir Ic' Ir' I1 I2 Ia Ib I : tI} {Jc Jr J1 J2 J Ja Jb : tJ} {v w : Int32} {u u' : Unit} {b : Int}
theorem zr_run {x1 x2 x4 : Int32} {r : Nat} (hr : 2732 ≤ r ∧ r < 3900) : ∀ (k p : Nat) {I : tI} {J : tJ} {Y : Int32 × Int32 × Int32 × Int32 × Int32 × tI × tJ}, p ≤ 6 → f249_185_l147 N k I J x1 x2 (Int32.ofNat r) x4 (Int32.ofNat p) = some Y → (Y.1 = x1 ∧ Y.2.1 = x2 ∧ Y.2.2.1 = Int32.ofNat r ∧ Y.2.2.2.1 = x4) ∧ Y.2.2.2.2.2.2 = J ∧ ∀ o i, ¬ (o = 186 ∧ r + p ≤ i ∧ i < r + 6) → Y.2.2.2.2.2.1 o i = I o i
  | 0, _, _, _, _, _, h => by cases h
  | k + 1, p, I, J, Y, hp, h => by
    simp only [f249_185_l147] at h
    rw [show xcmp .ge (Int32.ofNat p) 6 = decide (6 ≤ p) from oi_ge (q := 6) (by omega) (by omega)] at h
    by_cases e : 6 ≤ p
    · rw [decide_eq_true e, cond_true] at h
      cases h
      exact ⟨⟨rfl, rfl, rfl, rfl⟩, rfl, fun _ _ _ => rfl⟩
    · rw [decide_eq_false e, cond_false, oi_add, oi_nat (by omega), oi_suc (by omega)] at h
      obtain ⟨a1, a2, a3⟩ := zr_run hr k (p + 1) (by omega) h
      exact ⟨a1, a2, fun o i q => by rw [a3 o i (by omega), tup_ne (by omega)]⟩
/-- an act begins -/
theorem begin_act {x1 s0 : Int32} (h27 : x1 ≠ 27) (hE6 : E < 60) (hr1 : Ir 185 23 = Int32.ofNat a) (hr2 : Ir 186 2488 = Int32.ofNat E) (ha : a < 1000) (h : R0 t n b Ic Jc Ir) (hc1 : Ic 61 1 = Int32.ofNat a) (hc : f25_8 N (tup Ic 61 1 (Ic 61 1 + 1)) Jc = some (u, Ia, Ja)) (hr : f249_185_j117 N' Ir Jr x1 (Int32.ofNat E) (Int32.ofNat (2732 + 6 * E)) s0 = some (w, I2, J2)) : ∃ Ib Jb, R0 t n b Ia Ja Ib ∧ gJ Jc Ja ∧ Jb = Jr ∧ (∀ o k, o ≠ 8 → ¬ (o = 61 ∧ k = 1) → Ia o k = Ic o k) ∧ Ia 61 1 = Int32.ofNat (a + 1) ∧ (∀ o k, ¬ (o = 185 ∧ (12 ≤ k ∧ k ≤ 15 ∨ k = 23)) → ¬ (o = 186 ∧ (k = 2488 ∨ (2732 + 6 * E ≤ k ∧ k < 2738 + 6 * E))) → Ib o k = Ir o k) ∧ Ib 186 (2732 + 6 * E) = x1 ∧ Ib 186 2488 = Int32.ofNat (E + 1) ∧ Ib 185 23 = Int32.ofNat (a + 1) ∧ (match f248_185 N' Ib Jb x1 (Int32.ofNat (2732 + 6 * E)) with | none => none | some (v13, I13, J13) => bif xcmp .ne v13 0 then (bif xcmp .eq s0 0 then f249_185_j222 N' I13 J13 x1 (Int32.ofNat E) (Int32.ofNat (2732 + 6 * E)) else f249_185_j222 N' (tup (tup I13 193 (((I13 185 22)).toNatClampNeg) (Int32.ofNat E)) 185 22 ((I13 185 22) + 1)) J13 x1 (Int32.ofNat E) (Int32.ofNat (2732 + 6 * E))) else some (0, I13, J13)) = some (w, I2, J2) := by
  unfold f249_185_j117 at hr
  rw [xc_ne h27, cond_true, hr1, oi_suc (by omega), oi_nat (p := 2732 + 6 * E) (by omega)] at hr
  cases e1 : f249_185_l147 N' N' (tup (tup Ir 185 23 (Int32.ofNat (a + 1))) 186 (2732 + 6 * E) x1) Jr x1 (Int32.ofNat E) (Int32.ofNat (2732 + 6 * E)) s0 1 with
  | none => rw [e1] at hr; cases hr
  | some Y =>
  obtain ⟨⟨y1, y2, y3, y4⟩, y5, y6⟩ := zr_run (by omega) N' 1 (by omega) e1
  obtain ⟨z1, z2, z3, z4, z5, Iz, Jz⟩ := Y
  rw [e1] at hr
  dsimp only at hr y1 y2 y3 y4 y5 y6
  subst y1 y2 y3 y4 y5
  have k2488 : Iz 186 2488 = Int32.ofNat E := by rw [y6 _ _ (by omega), tup_ne (by omega), tup_ne (by omega)]; exact hr2
  rw [k2488, oi_suc (by omega)] at hr
  replace hr := obU hr
  obtain ⟨_, Ib, Jb, e2, hr⟩ := hr
  have iz : ∀ o k, ¬ (o = 185 ∧ k = 23) → ¬ (o = 186 ∧ 2732 + 6 * E ≤ k ∧ k < 2738 + 6 * E) → Iz o k = Ir o k := fun o k q1 q2 => by rw [y6 _ _ (by omega), tup_ne (by omega), tup_ne (by omega)]
  obtain ⟨r1, r2, r3, r4, r5⟩ := adv2 h hc e2 (fun o k q z => tup_ne (by omega)) (fun o k q => by rw [tup_ne (by omega)]; exact iz _ _ (by omega) (by omega))
  refine ⟨Ib, Jb, r1, r3, r5, fun o k q1 q2 => by rw [r2 _ _ (by omega)]; exact tup_ne (by omega), ?_, fun o k q1 q2 => by rw [r4 _ _ (by omega), tup_ne (by omega)]; exact iz _ _ (by omega) (by omega), ?_, ?_, ?_, hr⟩
  · rw [r2 _ _ (by omega), tup_eq, hc1, oi_suc (by omega)]
  · rw [r4 _ _ (by omega), tup_ne (by omega), y6 _ _ (by omega), tup_eq]
  · rw [r4 _ _ (by omega), tup_eq]
  · rw [r4 _ _ (by omega), tup_ne (by omega), y6 _ _ (by omega), tup_ne (by omega), tup_eq]
/-- an act ends with its sign -/
theorem end_act {x1 s0 kc : Int32} {Iq I3 I4 : tI} {J3 J4 : tJ} (hD : DR P S B d a E st Ic Ir) (ha : a < 30) (h27 : x1 ≠ 27) (h11 : kc ≠ 11) (hP : PA t n b P S B E kc Iq Ja Ib Jb I3 J3 I4 J4) (jq : gJ Jc Ja) (jb : Jb = Jr) (cq : ∀ o k, o ≠ 8 → ¬ (o = 61 ∧ k = 1) → ¬ (o = 60 ∧ k = 3) → ¬ (o = 66 ∧ k = d) → Iq o k = Ic o k) (c1 : Iq 61 1 = Int32.ofNat (a + 1)) (rq : ∀ o k, ¬ (o = 185 ∧ (12 ≤ k ∧ k ≤ 15 ∨ k = 23)) → ¬ (o = 186 ∧ (k = 2488 ∨ (2732 + 6 * E ≤ k ∧ k < 2738 + 6 * E))) → Ib o k = Ir o k) (r1 : Ib 186 2488 = Int32.ofNat (E + 1)) (r2 : Ib 185 23 = Int32.ofNat (a + 1)) (hs : (s0 = 0 ∧ ¬ OPN kc ∧ Iq 60 3 = Int32.ofNat d) ∨ (s0 = 1 ∧ d < 3 ∧ OPN kc ∧ Iq 60 3 = Int32.ofNat (d + 1) ∧ Iq 66 d = Int32.ofNat E)) (hc : f35_8 N I3 J3 = some (v, I1, J1)) (hr : (bif xcmp .eq s0 0 then f249_185_j222 N' I4 J4 x1 (Int32.ofNat E) (Int32.ofNat (2732 + 6 * E)) else f249_185_j222 N' (tup (tup I4 193 (((I4 185 22)).toNatClampNeg) (Int32.ofNat E)) 185 22 ((I4 185 22) + 1)) J4 x1 (Int32.ofNat E) (Int32.ofNat (2732 + 6 * E))) = some (w, I2, J2)) : SO t n b P S B Ic Jc Ir Jr v w I1 J1 I2 J2 := by
  obtain ⟨p1, p2, p3, ⟨oc, tc, ⟨p4, p5, p6, p7, p8⟩, p9⟩, p10, p11⟩ := hP
  obtain ⟨⟨b1, b2, b3, b4⟩, ⟨e1, e2, e3, e4, e5, e6⟩, -, -, -⟩ := id hD
  have k22 : I4 185 22 = Int32.ofNat d := by rw [p11 _ _ (by omega) (by omega), rq _ _ (by omega) (by omega)]; exact e6
  -- the reference's state at the sign
  have hx : ∃ (Iw : tI) (d' : Nat), f227_185 N' Iw J4 59 = some (w, I2, J2) ∧ R0 t n b I3 J3 Iw ∧ (∀ o k, ¬ (o = 185 ∧ k = 22) → ¬ (o = 193 ∧ k = d) → Iw o k = I4 o k) ∧ Iw 185 22 = Int32.ofNat d' ∧ ((d' = d ∧ ¬ OPN kc ∧ Iq 60 3 = Int32.ofNat d') ∨ (d' = d + 1 ∧ d < 3 ∧ OPN kc ∧ Iq 60 3 = Int32.ofNat d' ∧ Iq 66 d = Int32.ofNat E ∧ Iw 193 d = Int32.ofNat E)) := by
    unfold f249_185_j222 at hr
    rw [xc_ne h27, cond_true, cond_true] at hr
    rcases hs with ⟨rfl, hk, h3⟩ | ⟨rfl, hd, hk, h3, h66⟩
    · rw [q00, cond_true] at hr
      replace hr := obI hr
      obtain ⟨w1, Ix, Jx, q1, hr⟩ := hr
      cases hr
      exact ⟨I4, d, q1, p1, fun _ _ _ _ => rfl, k22, Or.inl ⟨rfl, hk, h3⟩⟩
    · rw [q10, cond_false, k22, oi_nat (p := d) (by omega), oi_suc (p := d) (by omega)] at hr
      replace hr := obI hr
      obtain ⟨w1, Ix, Jx, q1, hr⟩ := hr
      cases hr
      refine ⟨_, d + 1, q1, R0_cg p1 (fun _ _ => rfl) (fun _ _ _ => rfl) rfl (fun k _ _ => by rw [tup_ne (by omega), tup_ne (by omega)]) (fun o k ho => by rw [tup_ne (by omega), tup_ne (by omega)]), fun o k z1 z2 => by rw [tup_ne z1, tup_ne z2], tup_eq, Or.inr ⟨rfl, hd, hk, h3, h66, by rw [tup_ne (by omega), tup_eq]⟩⟩
  obtain ⟨Iw, d', q1, q2, q3, q4, q5⟩ := hx
  rcases pc_rel q2 hc q1 with ⟨rfl, rfl, hF⟩ | ⟨rfl, rfl, s1, s2, s3, s4, s5⟩
  · exact Or.inl ⟨rfl, rfl, hF⟩
  · have fc : ∀ o k, o ≠ 8 → ¬ (o = 61 ∧ k = 2) → ¬ (62 ≤ o ∧ o ≤ 65 ∧ k = E) → I1 o k = Iq o k := fun o k z1 z2 z3 => by rw [s2 _ _ (by omega)]; exact p10 o k z1 z2 z3
    have fr : ∀ o k, ¬ (o = 185 ∧ (12 ≤ k ∧ k ≤ 15 ∨ k = 22 ∨ k = 23)) → ¬ (o = 186 ∧ (k = 2488 ∨ (2732 + 6 * E ≤ k ∧ k < 2738 + 6 * E))) → ¬ (o = 193 ∧ k = d) → I2 o k = Ir o k := fun o k z1 z2 z3 => by rw [s4 _ _ (by omega), q3 _ _ (by omega) z3, p11 _ _ (by omega) (by omega)]; exact rq _ _ (by omega) (by omega)
    have frow : ∀ k, 2732 + 6 * E ≤ k → k < 2738 + 6 * E → I2 186 k = I4 186 k := fun k z1 z2 => by rw [s4 _ _ (by omega)]; exact q3 _ _ (by omega) (by omega)
    refine Or.inr ⟨rfl, rfl, s1, ⟨d', a + 1, E + 1, _, DR_add (kc := kc) (oc := oc) (tc := tc) (d' := d') hD ha ?_ ?_ ⟨?_, ?_, ?_, ?_⟩ (fun o k z1 z2 z3 => ?_) ?_ ?_ (fun k z1 z2 => ?_) ?_ h11 ?_ ?_ (fun i hi => ?_) (fun i hi => ?_) ?_⟩, fun o k z => by rw [s3 o k z, p2 o k z]; exact jq o k z, s5.trans (p3.trans jb), fun o k z1 z2 => by rw [fc _ _ (by omega) (by omega) (by omega)]; exact cq _ _ (by omega) (by omega) (by omega) (by omega), fun k z => fr _ _ (by omega) (by omega) (by omega)⟩
    · rw [fc _ _ (by omega) (by omega) (by omega)]; exact c1
    · rw [s2 _ _ (by omega)]; exact p8
    · rw [s2 _ _ (by omega)]; exact p4
    · rw [s2 _ _ (by omega)]; exact p5
    · rw [s2 _ _ (by omega)]; exact p6
    · rw [s2 _ _ (by omega)]; exact p7
    · rw [fc _ _ (by omega) (by omega) (by omega)]; exact cq _ _ (by omega) (by omega) (by omega) (by omega)
    · rw [s4 _ _ (by omega), q3 _ _ (by omega) (by omega), p11 _ _ (by omega) (by omega)]; exact r2
    · rw [s4 _ _ (by omega), q3 _ _ (by omega) (by omega), p11 _ _ (by omega) (by omega)]; exact r1
    · exact fr _ _ (by omega) (by omega) (by omega)
    · rw [frow _ (by omega) (by omega), frow _ (by omega) (by omega), frow _ (by omega) (by omega), frow _ (by omega) (by omega)]; exact p9
    · rw [fc _ _ (by omega) (by omega) (by omega)]
      rcases q5 with ⟨-, -, z⟩ | ⟨-, -, -, z, -⟩ <;> exact z
    · rw [s4 _ _ (by omega)]; exact q4
    · rw [fc _ _ (by omega) (by omega) (by omega)]; exact cq _ _ (by omega) (by omega) (by omega) (by omega)
    · exact fr _ _ (by omega) (by omega) (by omega)
    · rcases q5 with ⟨z1, z2, -⟩ | ⟨z1, z2, z3, -, z4, z5⟩
      · exact Or.inl ⟨z1, z2⟩
      · refine Or.inr ⟨z1, z2, z3, ?_, ?_⟩
        · rw [fc _ _ (by omega) (by omega) (by omega)]; exact z4
        · rw [s4 _ _ (by omega)]; exact z5
end RU4
