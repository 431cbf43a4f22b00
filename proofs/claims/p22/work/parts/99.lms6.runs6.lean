section RU6
variable {t : Nat → Int32} {n N N' P S B W D E d a : Nat} {st : Nat → Nat} {Ic Ir Ic' Ir' I1 I2 Ia Ib I I3 I4 : tI} {Jc Jr J1 J2 J Ja Jb J3 J4 : tJ} {v w v3 w3 : Int32} {u u' : Unit} {b : Int}
/-- an end -/
theorem stop_rel {d0 : Nat} (hD : DR P S B (d0 + 1) a E st Ic Ir) (h : R0 t n b Ic Jc Ir) (hc : f53_60 N Ic Jc = some (v3, I3, J3)) (hr : f249_185_j117 N' Ir Jr 27 (Int32.ofNat E) (Int32.ofNat (2732 + 6 * E)) 0 = some (w, I2, J2)) : v3 = 1 ∧ ∀ {v : Int32} {I1 : tI} {J1 : tJ}, f35_8 N I3 J3 = some (v, I1, J1) → SO t n b P S B Ic Jc Ir Jr v w I1 J1 I2 J2 := by
  obtain ⟨⟨b1, b2, b3, b4⟩, ⟨e1, e2, e3, e4, e5, e6⟩, -, hst, -⟩ := id hD
  obtain ⟨⟨s1, s2, s3, s4, s5⟩, s6, s7⟩ := hst d0 (by omega)
  have hE6 : E < 60 := by omega
  generalize hst0 : st d0 = o0 at s1 s2 s3 s4 s5
  unfold f53_60 at hc
  rw [e5, show xcmp .ge (Int32.ofNat (d0 + 1)) 1 = decide (1 ≤ d0 + 1) from oi_ge (q := 1) (by omega) (by omega), decide_eq_true (by omega), cond_true, oi_s1, oi_nat (p := d0) (by omega), s2, oi_nat (p := o0) (by omega), e3, add_is (E := E) (by rw [tup_ne (by omega), tup_ne (by omega)]; exact e3) hE6] at hc
  dsimp only at hc
  rw [adI_v.2.2.2.2, oi_s1, oi_nat (p := E) (by omega)] at hc
  replace hc := obU hc
  obtain ⟨_, Ia, Ja, q1, hc⟩ := hc
  cases hc
  refine ⟨rfl, fun {v I1 J1} hc => ?_⟩
  unfold f249_185_j117 at hr
  rw [show xcmp .ne (27 : Int32) 27 = false from rfl, cond_false, e2, Int32.add_zero, oi_nat (p := 2732 + 6 * E) (by omega)] at hr
  cases h1 : f249_185_l147 N' N' (tup (tup Ir 185 23 (Int32.ofNat a)) 186 (2732 + 6 * E) 27) Jr 27 (Int32.ofNat E) (Int32.ofNat (2732 + 6 * E)) 0 1 with
  | none => rw [h1] at hr; cases hr
  | some Y =>
  obtain ⟨⟨y1, y2, y3, y4⟩, y5, y6⟩ := zr_run (by omega) N' 1 (by omega) h1
  obtain ⟨z1, z2, z3, z4, z5, Iz, Jz⟩ := Y
  rw [h1] at hr
  dsimp only at hr y1 y2 y3 y4 y5 y6
  subst y1 y2 y3 y4 y5
  have k2488 : Iz 186 2488 = Int32.ofNat E := by rw [y6 _ _ (by omega), tup_ne (by omega), tup_ne (by omega)]; exact e4
  rw [k2488, oi_suc (by omega)] at hr
  replace hr := obU hr
  obtain ⟨_, Ib, Jb, q2, hr⟩ := hr
  have iz : ∀ o k, ¬ (o = 185 ∧ k = 23) → ¬ (o = 186 ∧ 2732 + 6 * E ≤ k ∧ k < 2738 + 6 * E) → Iz o k = Ir o k := fun o k q1 q2 => by rw [y6 _ _ (by omega), tup_ne (by omega), tup_ne (by omega)]
  have f1 : ∀ o k, o ≤ 59 → tup (adI (tup (tup Ic 60 3 (Int32.ofNat d0)) 65 o0 (Int32.ofNat E)) E 11 0 0) 65 E (Int32.ofNat o0) o k = Ic o k := fun o k q => by
    rw [tup_ne (by omega), adI_o (by omega) (by omega), tup_ne (by omega), tup_ne (by omega)]
  obtain ⟨r1, r2, r3, r4, r5⟩ := adv2 h q1 q2 (fun o k q z => f1 o k (by omega)) (fun o k q => by rw [tup_ne (by omega)]; exact iz _ _ (by omega) (by omega))
  unfold f248_185 at hr
  rw [show xcmp .eq (27 : Int32) 21 = false from rfl, cond_false, show xcmp .eq (27 : Int32) 22 = false from rfl, cond_false, show xcmp .eq (27 : Int32) 23 = false from rfl, cond_false, show xcmp .eq (27 : Int32) 25 = false from rfl, cond_false, show xcmp .eq (27 : Int32) 26 = false from rfl, cond_false] at hr
  dsimp only at hr
  rw [n10, cond_true, q00, cond_true] at hr
  unfold f249_185_j222 at hr
  have b22 : Ib 185 22 = Int32.ofNat (d0 + 1) := by rw [r4 _ _ (by omega), tup_ne (by omega)]; exact (iz _ _ (by omega) (by omega)).trans e6
  have b193 : Ib 193 d0 = Int32.ofNat o0 := by rw [r4 _ _ (by omega), tup_ne (by omega)]; exact (iz _ _ (by omega) (by omega)).trans s3
  have p4 : Int32.ofNat (2732 + 6 * E) + 4 = Int32.ofNat (2732 + 6 * E + 4) := pk (x := 4) (by omega) rfl (by omega)
  have p5 : (2732 : Int32) + 6 * Int32.ofNat o0 + 4 = Int32.ofNat (2732 + 6 * o0 + 4) := by
    rw [show (6 : Int32) * Int32.ofNat o0 = Int32.ofNat (6 * o0) from oi_mul (a := 6), show (2732 : Int32) + Int32.ofNat (6 * o0) = Int32.ofNat (2732 + 6 * o0) from oi_add (a := 2732)]
    exact pk (x := 4) (by omega) rfl (by omega)
  rw [show xcmp .ne (27 : Int32) 27 = false from rfl, cond_false, b22, oi_s1, oi_nat (p := d0) (by omega), b193, p4, p5, oi_nat (p := 2732 + 6 * E + 4) (by omega), oi_nat (p := 2732 + 6 * o0 + 4) (by omega)] at hr
  replace hr := obI hr
  obtain ⟨w4, Iy, Jy, q4, hr⟩ := hr
  cases hr
  have q2' : R0 t n b I3 J3 (tup (tup (tup Ib 185 22 (Int32.ofNat d0)) 186 (2732 + 6 * E + 4) (Int32.ofNat o0)) 186 (2732 + 6 * o0 + 4) (Int32.ofNat E)) := R0_cg r1 (fun _ _ => rfl) (fun _ _ _ => rfl) rfl (fun k _ _ => by rw [tup_ne (by omega), tup_ne (by omega), tup_ne (by omega)]) (fun o k ho => by rw [tup_ne (by omega), tup_ne (by omega), tup_ne (by omega)])
  rcases pc_rel q2' hc q4 with ⟨rfl, rfl, hF⟩ | ⟨rfl, rfl, g1, g2, g3, g4, g5⟩
  · exact Or.inl ⟨rfl, rfl, hF⟩
  · have fr : ∀ o k, ¬ (o = 185 ∧ (12 ≤ k ∧ k ≤ 15 ∨ k = 22 ∨ k = 23)) → ¬ (o = 186 ∧ (k = 2488 ∨ (2732 + 6 * E ≤ k ∧ k < 2738 + 6 * E) ∨ k = 2732 + 6 * o0 + 4)) → I2 o k = Ir o k := fun o k z1 z2 => by
      rw [g4 _ _ (by omega), tup_ne (by omega), tup_ne (by omega), tup_ne (by omega), r4 _ _ (by omega), tup_ne (by omega)]
      exact iz _ _ (by omega) (by omega)
    have fc : ∀ o k, o ≠ 8 → I1 o k = tup (adI (tup (tup Ic 60 3 (Int32.ofNat d0)) 65 o0 (Int32.ofNat E)) E 11 0 0) 65 E (Int32.ofNat o0) o k := fun o k z => by
      rw [g2 _ _ (by omega)]
      exact r2 _ _ (by omega)
    subst hst0
    refine Or.inr ⟨rfl, rfl, g1, ⟨d0, a, E + 1, st, DR_end hD ?_ ?_ ?_ ?_ ?_ (fun o k z1 z2 z3 z4 => ?_) ?_ ?_ (fun k z1 z2 z3 => ?_) ?_ ?_ ?_ ?_ ?_ (fun i hi => ?_) (fun i hi => ?_)⟩, fun o k z => by rw [g3 o k z]; exact r3 o k z, g5.trans r5, fun o k z1 z2 => by rw [fc _ _ (by omega)]; exact f1 _ _ (by omega), fun k z => fr _ _ (by omega) (by omega)⟩
    · rw [fc _ _ (by omega), tup_ne (by omega), adI_o (by omega) (by omega), tup_ne (by omega), tup_ne (by omega)]; exact e1
    · rw [fc _ _ (by omega), tup_ne (by omega)]; exact adI_v.2.2.2.2
    · rw [fc _ _ (by omega), tup_ne (by omega)]; exact adI_v.1
    · rw [fc _ _ (by omega), tup_eq]
    · rw [fc _ _ (by omega), tup_ne (by omega), adI_o (by omega) (by omega), tup_eq]
    · rw [fc _ _ (by omega), tup_ne (by omega), adI_o (by omega) (by omega), tup_ne (by omega), tup_ne (by omega)]
    · rw [g4 _ _ (by omega), tup_ne (by omega), tup_ne (by omega), tup_ne (by omega), r4 _ _ (by omega), tup_ne (by omega), y6 _ _ (by omega), tup_ne (by omega), tup_eq]
    · rw [g4 _ _ (by omega), tup_ne (by omega), tup_ne (by omega), tup_ne (by omega), r4 _ _ (by omega), tup_eq]
    · exact fr _ _ (by omega) (by omega)
    · rw [g4 _ _ (by omega), tup_eq]
    · rw [g4 _ _ (by omega), tup_ne (by omega), tup_ne (by omega), tup_ne (by omega), r4 _ _ (by omega), tup_ne (by omega), y6 _ _ (by omega), tup_eq]
    · rw [g4 _ _ (by omega), tup_ne (by omega), tup_eq]
    · rw [fc _ _ (by omega), tup_ne (by omega), adI_o (by omega) (by omega), tup_ne (by omega), tup_eq]
    · rw [g4 _ _ (by omega), tup_ne (by omega), tup_ne (by omega), tup_eq]
    · rw [fc _ _ (by omega), tup_ne (by omega), adI_o (by omega) (by omega), tup_ne (by omega), tup_ne (by omega)]
    · exact fr _ _ (by omega) (by omega)
def cEnt (N : Nat) (I : tI) (J : tJ) : Option (Int32 × tI × tJ) := bif xcmp .ne (I 8 5) 29 then (match f52_60 I J with | (v8, I8, J8) => bif xcmp .eq v8 0 then some (0, I8, J8) else (match f54_60_10 N I8 J8 with | none => none | some (v13, I13, J13) => bif xcmp .eq v13 0 then some (0, I13, J13) else f35_8 N I13 J13)) else (match f53_60 N I J with | none => none | some (v21, I21, J21) => bif xcmp .eq v21 0 then some (0, I21, J21) else f35_8 N I21 J21)
theorem step_rel (hD : DR P S B d a E st Ic Ir) (hN : NWn P S B Ic Jc Ir Jr) (h : R0 t n b Ic Jc Ir) (hc : cEnt N Ic Jc = some (v, I1, J1)) (hr : f249_185 N' Ir Jr = some (w, I2, J2)) : SO t n b P S B Ic Jc Ir Jr v w I1 J1 I2 J2 := by
  obtain ⟨⟨b1, b2, b3, b4⟩, ⟨e1, e2, e3, e4, e5, e6⟩, -, -, -⟩ := id hD
  unfold f249_185 at hr
  replace hr := obI hr
  obtain ⟨w1, Ia, Ja, q1, hr⟩ := hr
  obtain ⟨ww, eq, hRW⟩ := RT_word h.1 q1
  cases eq
  rw [e4, show (2732 : Int32) + 6 * Int32.ofNat E = Int32.ofNat (2732 + 6 * E) by
    rw [show (6 : Int32) * Int32.ofNat E = Int32.ofNat (6 * E) from oi_mul (a := 6)]
    exact oi_add (a := 2732)] at hr
  have h21 : w1 = 21 ↔ Ic 8 5 = 21 := RW_iff hRW 21 (by decide)
  have h22 : w1 = 22 ↔ Ic 8 5 = 22 := RW_iff hRW 22 (by decide)
  have h23 : w1 = 23 ↔ Ic 8 5 = 23 := RW_iff hRW 23 (by decide)
  have h24 : w1 = 24 ↔ Ic 8 5 = 24 := RW_iff hRW 24 (by decide)
  have h25 : w1 = 25 ↔ Ic 8 5 = 25 := RW_iff hRW 25 (by decide)
  have h26 : w1 = 26 ↔ Ic 8 5 = 28 := RW_iff hRW 26 (by decide)
  have h27 : w1 = 27 ↔ Ic 8 5 = 29 := RW_iff hRW 27 (by decide)
  have h28 : w1 = 28 ↔ Ic 8 5 = 30 := RW_iff hRW 28 (by decide)
  have rbad : ∀ {k : Int32}, 0 < k.toInt → f225_185 Ir Jr k = (w, I2, J2) → f33_8 Ic Jc k = (v, I1, J1) → SO t n b P S B Ic Jc Ir Jr v w I1 J1 I2 J2 := fun {k} hk q1 q2 => by
    rw [f225_is h.2.1] at q1
    rw [f33_is] at q2
    cases q1
    cases q2
    exact Or.inl ⟨rfl, rfl, RF_of h hk⟩
  -- an act that may begin
  have act : ∀ {x1 cw s0 : Int32}, ((x1 = 21 ∧ cw = 21 ∧ s0 = 0) ∨ (x1 = 22 ∧ cw = 22 ∧ s0 = 0) ∨ (x1 = 23 ∧ cw = 23 ∧ s0 = 0) ∨ (x1 = 24 ∧ cw = 24 ∧ s0 = 0) ∨ (x1 = 28 ∧ cw = 30 ∧ s0 = 0) ∨ (x1 = 25 ∧ cw = 25 ∧ s0 = 1) ∨ (x1 = 26 ∧ cw = 28 ∧ s0 = 1)) → Ic 8 5 = cw → f249_185_j75 N' Ir Jr x1 (Int32.ofNat E) (Int32.ofNat (2732 + 6 * E)) s0 = some (w, I2, J2) → (match f52_60_j72 Ic Jc s0 with | (v8, I8, J8) => bif xcmp .eq v8 0 then some (0, I8, J8) else (match f54_60_10 N I8 J8 with | none => none | some (v13, I13, J13) => bif xcmp .eq v13 0 then some (0, I13, J13) else f35_8 N I13 J13)) = some (v, I1, J1) → SO t n b P S B Ic Jc Ir Jr v w I1 J1 I2 J2 := fun {x1 cw s0} hx h5 hr hc => by
    have n27 : x1 ≠ 27 := by
      rcases hx with ⟨rfl, -⟩ | ⟨rfl, -⟩ | ⟨rfl, -⟩ | ⟨rfl, -⟩ | ⟨rfl, -⟩ | ⟨rfl, -⟩ | ⟨rfl, -⟩ <;> decide
    have s01 : s0 = 0 ∨ s0 = 1 := by
      rcases hx with ⟨-, -, z⟩ | ⟨-, -, z⟩ | ⟨-, -, z⟩ | ⟨-, -, z⟩ | ⟨-, -, z⟩ | ⟨-, -, z⟩ | ⟨-, -, z⟩
      all_goals first | exact Or.inl z | exact Or.inr z
    unfold f249_185_j75 f249_185_j97 at hr
    unfold f52_60_j72 at hc
    rw [xc_eqn n27, cond_false, e2] at hr
    rw [e1, show xcmp .lt (Int32.ofNat a) 30 = decide (a < 30) from oi_lt (q := 30) (by omega) (by omega)] at hc
    by_cases ha : a < 30
    · rw [xc_ne (y := 30) (fun q => by have := oi_inj (b := 30) (by omega) (by omega) q; omega), cond_true, e6] at hr
      rw [decide_eq_true ha, cond_true, e5, show xcmp .lt (Int32.ofNat d) 3 = decide (d < 3) from oi_lt (q := 3) (by omega) (by omega)] at hc
      have go : (s0 = 0 ∨ d < 3) → (match ((1 : Int32), Ic, Jc) with | (v8, I8, J8) => bif xcmp .eq v8 0 then some (0, I8, J8) else (match f54_60_10 N I8 J8 with | none => none | some (v13, I13, J13) => bif xcmp .eq v13 0 then some (0, I13, J13) else f35_8 N I13 J13)) = some (v, I1, J1) → f249_185_j117 N' Ir Jr x1 (Int32.ofNat E) (Int32.ofNat (2732 + 6 * E)) s0 = some (w, I2, J2) → SO t n b P S B Ic Jc Ir Jr v w I1 J1 I2 J2 := fun hsd hc hr => by
        dsimp only at hc
        rw [q10, cond_false] at hc
        replace hc := obI hc
        obtain ⟨v13, I13, J13, g1, hc⟩ := hc
        have hx' : (x1 = 21 ∧ cw = 21 ∧ s0 = 0) ∨ (x1 = 22 ∧ cw = 22 ∧ s0 = 0) ∨ (x1 = 23 ∧ cw = 23 ∧ s0 = 0) ∨ (x1 = 24 ∧ cw = 24 ∧ s0 = 0) ∨ (x1 = 28 ∧ cw = 30 ∧ s0 = 0) ∨ (x1 = 25 ∧ cw = 25 ∧ s0 = 1 ∧ d < 3) ∨ (x1 = 26 ∧ cw = 28 ∧ s0 = 1 ∧ d < 3) := by
          have d3 : s0 = 1 → d < 3 := fun z => by
            rcases hsd with z2 | z2
            · rw [z] at z2
              exact absurd z2 (by decide)
            · exact z2
          rcases hx with z | z | z | z | z | ⟨z1, z2, z3⟩ | ⟨z1, z2, z3⟩
          · exact Or.inl z
          · exact Or.inr (Or.inl z)
          · exact Or.inr (Or.inr (Or.inl z))
          · exact Or.inr (Or.inr (Or.inr (Or.inl z)))
          · exact Or.inr (Or.inr (Or.inr (Or.inr (Or.inl z))))
          · exact Or.inr (Or.inr (Or.inr (Or.inr (Or.inr (Or.inl ⟨z1, z2, z3, d3 z3⟩)))))
          · exact Or.inr (Or.inr (Or.inr (Or.inr (Or.inr (Or.inr ⟨z1, z2, z3, d3 z3⟩)))))
        rcases act_rel hD hN ha hx' h5 h g1 hr with ⟨rfl, rfl, hF⟩ | ⟨rfl, hf⟩
        · rw [q00, cond_true] at hc
          cases hc
          exact Or.inl ⟨rfl, rfl, hF⟩
        · rw [q10, cond_false] at hc
          exact hf hc
      rcases s01 with rfl | rfl
      · rw [q00, cond_true] at hc hr
        exact go (Or.inl rfl) hc hr
      · rw [q10, cond_false] at hc hr
        by_cases hd : d < 3
        · rw [decide_eq_true hd, cond_true] at hc
          rw [xc_ne (y := 3) (fun q => by have := oi_inj (b := 3) (by omega) (by omega) q; omega), cond_true] at hr
          exact go (Or.inr hd) hc hr
        · have : d = 3 := by omega
          subst this
          rw [decide_eq_false hd, cond_false, f33_is] at hc
          rw [show xcmp .ne (Int32.ofNat 3) 3 = false from rfl, cond_false] at hr
          dsimp only at hc
          rw [q00, cond_true] at hc
          dsimp only at hc
          rw [q00, cond_true] at hc
          cases hc
          exact rbad (k := 7) (by decide) (Option.some.inj hr) (by rw [f33_is])
    · have : a = 30 := by omega
      subst this
      rw [show xcmp .ne (Int32.ofNat 30) 30 = false from rfl, cond_false] at hr
      rw [decide_eq_false ha, cond_false, f33_is] at hc
      dsimp only at hc
      rw [q00, cond_true] at hc
      cases hc
      exact rbad (k := 6) (by decide) (Option.some.inj hr) (by rw [f33_is])
  unfold cEnt at hc
  by_cases k27 : w1 = 27
  · have c29 := h27.mp k27
    subst k27
    rw [c29, show xcmp .ne (29 : Int32) 29 = false from rfl, cond_false] at hc
    rw [show xcmp .eq (27 : Int32) 25 = false from rfl, cond_false, show xcmp .ne (27 : Int32) 26 = true from rfl, cond_true] at hr
    unfold f249_185_j42 f249_185_j75 f249_185_j97 at hr
    rw [show xcmp .lt (27 : Int32) 21 = false from rfl, cond_false, show xcmp .gt (27 : Int32) 28 = false from rfl, cond_false, show xcmp .ne (27 : Int32) 27 = false from rfl, cond_false, e6] at hr
    replace hc := obI hc
    obtain ⟨v21, I21, J21, g1, hc⟩ := hc
    cases d with
    | zero =>
      rw [show xcmp .ne (Int32.ofNat 0) 0 = false from rfl, cond_false] at hr
      unfold f53_60 at g1
      rw [e5, show xcmp .ge (Int32.ofNat 0) 1 = false from rfl, cond_false, f33_is] at g1
      dsimp only at g1
      cases g1
      rw [q00, cond_true] at hc
      cases hc
      exact rbad (k := 2) (by decide) (Option.some.inj hr) (by rw [f33_is])
    | succ d0 =>
      rw [xc_ne (y := 0) (fun q => by have := oi_inj (b := 0) (by omega) (by omega) q; omega), cond_true, show xcmp .eq (27 : Int32) 27 = true from rfl, cond_true, q00, cond_true] at hr
      obtain ⟨rfl, hf⟩ := stop_rel hD h g1 hr
      rw [q10, cond_false] at hc
      exact hf hc
  rw [xc_ne (fun q => k27 (h27.mpr q)), cond_true] at hc
  unfold f52_60 f52_60_j24 f52_60_j29 at hc
  by_cases k25 : w1 = 25
  · have c := h25.mp k25
    subst k25
    rw [c, show xcmp .eq (25 : Int32) 25 = true from rfl, cond_true, n10, cond_true] at hc
    rw [show xcmp .eq (25 : Int32) 25 = true from rfl, cond_true] at hr
    unfold f249_185_j37 f249_185_j42 at hr
    rw [show xcmp .lt (25 : Int32) 21 = false from rfl, cond_false, show xcmp .gt (25 : Int32) 28 = false from rfl, cond_false, show xcmp .ne (25 : Int32) 27 = true from rfl, cond_true] at hr
    exact act (Or.inr (Or.inr (Or.inr (Or.inr (Or.inr (Or.inl ⟨rfl, rfl, rfl⟩)))))) c hr hc
  rw [xc_eqn (fun q => k25 (h25.mpr q)), cond_false] at hc
  rw [xc_eqn k25, cond_false] at hr
  by_cases k26 : w1 = 26
  · have c := h26.mp k26
    subst k26
    rw [c, show xcmp .ne (28 : Int32) 28 = false from rfl, cond_false, n10, cond_true] at hc
    rw [show xcmp .ne (26 : Int32) 26 = false from rfl, cond_false] at hr
    unfold f249_185_j37 f249_185_j42 at hr
    rw [show xcmp .lt (26 : Int32) 21 = false from rfl, cond_false, show xcmp .gt (26 : Int32) 28 = false from rfl, cond_false, show xcmp .ne (26 : Int32) 27 = true from rfl, cond_true] at hr
    exact act (Or.inr (Or.inr (Or.inr (Or.inr (Or.inr (Or.inr ⟨rfl, rfl, rfl⟩)))))) c hr hc
  rw [xc_ne (fun q => k26 (h26.mpr q)), cond_true, n00, cond_false] at hc
  rw [xc_ne k26, cond_true] at hr
  unfold f249_185_j42 at hr
  by_cases k28 : w1 = 28
  · have c := h28.mp k28
    subst k28
    rw [c, show xcmp .eq (30 : Int32) 30 = true from rfl, cond_true] at hc
    rw [show xcmp .lt (28 : Int32) 21 = false from rfl, cond_false, show xcmp .gt (28 : Int32) 28 = false from rfl, cond_false, show xcmp .ne (28 : Int32) 27 = true from rfl, cond_true] at hr
    exact act (Or.inr (Or.inr (Or.inr (Or.inr (Or.inl ⟨rfl, rfl, rfl⟩))))) c hr hc
  rw [xc_eqn (fun q => k28 (h28.mpr q)), cond_false, f127_is, show (21 : Int32).toInt = 21 from rfl, show (24 : Int32).toInt = 24 from rfl] at hc
  dsimp only at hc
  by_cases k4 : w1 = 21 ∨ w1 = 22 ∨ w1 = 23 ∨ w1 = 24
  · rcases k4 with rfl | rfl | rfl | rfl
    · have c := h21.mp rfl
      rw [c, if_pos (by decide), n10, cond_true] at hc
      rw [show xcmp .lt (21 : Int32) 21 = false from rfl, cond_false, show xcmp .gt (21 : Int32) 28 = false from rfl, cond_false, show xcmp .ne (21 : Int32) 27 = true from rfl, cond_true] at hr
      exact act (Or.inl ⟨rfl, rfl, rfl⟩) c hr hc
    · have c := h22.mp rfl
      rw [c, if_pos (by decide), n10, cond_true] at hc
      rw [show xcmp .lt (22 : Int32) 21 = false from rfl, cond_false, show xcmp .gt (22 : Int32) 28 = false from rfl, cond_false, show xcmp .ne (22 : Int32) 27 = true from rfl, cond_true] at hr
      exact act (Or.inr (Or.inl ⟨rfl, rfl, rfl⟩)) c hr hc
    · have c := h23.mp rfl
      rw [c, if_pos (by decide), n10, cond_true] at hc
      rw [show xcmp .lt (23 : Int32) 21 = false from rfl, cond_false, show xcmp .gt (23 : Int32) 28 = false from rfl, cond_false, show xcmp .ne (23 : Int32) 27 = true from rfl, cond_true] at hr
      exact act (Or.inr (Or.inr (Or.inl ⟨rfl, rfl, rfl⟩))) c hr hc
    · have c := h24.mp rfl
      rw [c, if_pos (by decide), n10, cond_true] at hc
      rw [show xcmp .lt (24 : Int32) 21 = false from rfl, cond_false, show xcmp .gt (24 : Int32) 28 = false from rfl, cond_false, show xcmp .ne (24 : Int32) 27 = true from rfl, cond_true] at hr
      exact act (Or.inr (Or.inr (Or.inr (Or.inl ⟨rfl, rfl, rfl⟩)))) c hr hc
  · have nc : ¬ (21 ≤ (Ic 8 5).toInt ∧ (Ic 8 5).toInt ≤ 24) := fun q => by
      refine k4 ?_
      rcases (by omega : (Ic 8 5).toInt = 21 ∨ (Ic 8 5).toInt = 22 ∨ (Ic 8 5).toInt = 23 ∨ (Ic 8 5).toInt = 24) with z | z | z | z
      · exact Or.inl (h21.mpr (i32_eq z))
      · exact Or.inr (Or.inl (h22.mpr (i32_eq z)))
      · exact Or.inr (Or.inr (Or.inl (h23.mpr (i32_eq z))))
      · exact Or.inr (Or.inr (Or.inr (h24.mpr (i32_eq z))))
    have nw : w1.toInt < 21 ∨ 28 < w1.toInt := by
      have ne : ∀ y : Int32, w1 ≠ y → w1.toInt ≠ y.toInt := fun y q z => q (i32_eq z)
      have m1 := ne 21 (fun q => k4 (Or.inl q))
      have m2 := ne 22 (fun q => k4 (Or.inr (Or.inl q)))
      have m3 := ne 23 (fun q => k4 (Or.inr (Or.inr (Or.inl q))))
      have m4 := ne 24 (fun q => k4 (Or.inr (Or.inr (Or.inr q))))
      have m5 := ne 25 k25
      have m6 := ne 26 k26
      have m7 := ne 27 k27
      have m8 := ne 28 k28
      simp only [show (21 : Int32).toInt = 21 from rfl, show (22 : Int32).toInt = 22 from rfl, show (23 : Int32).toInt = 23 from rfl, show (24 : Int32).toInt = 24 from rfl, show (25 : Int32).toInt = 25 from rfl, show (26 : Int32).toInt = 26 from rfl, show (27 : Int32).toInt = 27 from rfl, show (28 : Int32).toInt = 28 from rfl] at m1 m2 m3 m4 m5 m6 m7 m8
      omega
    rw [if_neg nc, n00, cond_false, f33_is] at hc
    dsimp only at hc
    rw [q00, cond_true] at hc
    cases hc
    have hr' : f225_185 Ir Jr 2 = (w, I2, J2) := by
      rw [tc_lt, tc_gt, show (21 : Int32).toInt = 21 from rfl, show (28 : Int32).toInt = 28 from rfl] at hr
      rcases nw with z | z
      · rw [decide_eq_true z, cond_true] at hr
        exact Option.some.inj hr
      · rw [decide_eq_false (by omega), cond_false, decide_eq_true z, cond_true] at hr
        exact Option.some.inj hr
    exact rbad (k := 2) (by decide) hr' (by rw [f33_is])
end RU6
