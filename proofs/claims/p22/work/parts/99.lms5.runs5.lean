/-! RUNS READ: acts, ends, one by one -/
section RU5
variable {t : Nat → Int32} {n N N' P S B W D E d a : Nat} {st : Nat → Nat} {Ic Ir Ic' Ir' I1 I2 Ia Ib I I3 I4 : tI} {Jc Jr J1 J2 J Ja Jb J3 J4 : tJ} {v w v3 w3 : Int32} {u u' : Unit} {b : Int}
theorem f35_01 (h : f35_8 N I J = some (v, I1, J1)) : v = 0 ∨ v = 1 := by
  unfold f35_8 at h
  rw [f33_is] at h
  dsimp only at h
  rcases bsp h with ⟨-, h⟩ | ⟨-, h⟩
  · cases h
    exact Or.inl rfl
  · rcases bsp h with ⟨-, h⟩ | ⟨-, h⟩
    · replace h := obU h
      obtain ⟨_, Ix, Jx, -, h⟩ := h
      cases h
      exact Or.inr rfl
    · cases h
      exact Or.inl rfl
theorem act_rel {x1 cw s0 : Int32} (hD : DR P S B d a E st Ic Ir) (hN : NWn P S B Ic Jc Ir Jr) (ha : a < 30) (hx : (x1 = 21 ∧ cw = 21 ∧ s0 = 0) ∨ (x1 = 22 ∧ cw = 22 ∧ s0 = 0) ∨ (x1 = 23 ∧ cw = 23 ∧ s0 = 0) ∨ (x1 = 24 ∧ cw = 24 ∧ s0 = 0) ∨ (x1 = 28 ∧ cw = 30 ∧ s0 = 0) ∨ (x1 = 25 ∧ cw = 25 ∧ s0 = 1 ∧ d < 3) ∨ (x1 = 26 ∧ cw = 28 ∧ s0 = 1 ∧ d < 3)) (h5 : Ic 8 5 = cw) (h : R0 t n b Ic Jc Ir) (hc : f54_60_10 N Ic Jc = some (v3, I3, J3)) (hr : f249_185_j117 N' Ir Jr x1 (Int32.ofNat E) (Int32.ofNat (2732 + 6 * E)) s0 = some (w, I2, J2)) : (v3 = 0 ∧ w = 0 ∧ RF t I3 I2) ∨ (v3 = 1 ∧ ∀ {v : Int32} {I1 : tI} {J1 : tJ}, f35_8 N I3 J3 = some (v, I1, J1) → SO t n b P S B Ic Jc Ir Jr v w I1 J1 I2 J2) := by
  obtain ⟨⟨b1, b2, b3, b4⟩, ⟨e1, e2, e3, e4, e5, e6⟩, -, -, -⟩ := id hD
  obtain ⟨⟨hP, hS, hB⟩, ⟨a1, a2, a3, a4, a5, a6⟩, hn2, hn3, hn4⟩ := id hN
  have hE6 : E < 60 := by omega
  have h27 : x1 ≠ 27 := by
    rcases hx with ⟨rfl, -⟩ | ⟨rfl, -⟩ | ⟨rfl, -⟩ | ⟨rfl, -⟩ | ⟨rfl, -⟩ | ⟨rfl, -⟩ | ⟨rfl, -⟩ <;> decide
  unfold f54_60_10 at hc
  rw [h5] at hc
  replace hc := obU hc
  obtain ⟨_, Ia, Ja, q1, hc⟩ := hc
  obtain ⟨Ib, Jb, r1, r2, r3, r4, r5, r6, r7, r8, r9, hr⟩ := begin_act (a := a) h27 hE6 e2 e4 (by omega) h e1 q1 hr
  replace hr := obI hr
  obtain ⟨w3, I4, J4, q2, hr⟩ := hr
  have iE : Ia 61 2 = Int32.ofNat E := by rw [r4 _ _ (by omega) (by omega)]; exact e3
  have id3 : Ia 60 3 = Int32.ofNat d := by rw [r4 _ _ (by omega) (by omega)]; exact e5
  have hN' : NWn P S B Ia Ja Ib Jb := NWn_cg hN (fun o k _ _ => r4 o k (by omega) (by omega)) r2 (fun k hk => r6 _ _ (by omega) (by omega)) r3
  have nOPN : ∀ {k : Int32}, (k.toInt < 5 ∨ 10 < k.toInt) → ¬ OPN k := fun hk q => by
    unfold OPN at q
    omega
  -- what an act is told with, both ways
  have hargs : OUT t v3 w3 I3 I4 (∃ kc Iq, PA t n b P S B E kc Iq Ja Ib Jb I3 J3 I4 J4 ∧ kc ≠ 11 ∧ (∀ o k, o ≠ 8 → ¬ (o = 61 ∧ k = 1) → ¬ (o = 60 ∧ k = 3) → ¬ (o = 66 ∧ k = d) → Iq o k = Ic o k) ∧ Iq 61 1 = Int32.ofNat (a + 1) ∧ ((s0 = 0 ∧ ¬ OPN kc ∧ Iq 60 3 = Int32.ofNat d) ∨ (s0 = 1 ∧ d < 3 ∧ OPN kc ∧ Iq 60 3 = Int32.ofNat (d + 1) ∧ Iq 66 d = Int32.ofNat E))) := by
    have plain : ∀ {kc : Int32}, s0 = 0 → kc ≠ 11 → ¬ OPN kc → PA t n b P S B E kc Ia Ja Ib Jb I3 J3 I4 J4 → ∃ kc Iq, PA t n b P S B E kc Iq Ja Ib Jb I3 J3 I4 J4 ∧ kc ≠ 11 ∧ (∀ o k, o ≠ 8 → ¬ (o = 61 ∧ k = 1) → ¬ (o = 60 ∧ k = 3) → ¬ (o = 66 ∧ k = d) → Iq o k = Ic o k) ∧ Iq 61 1 = Int32.ofNat (a + 1) ∧ ((s0 = 0 ∧ ¬ OPN kc ∧ Iq 60 3 = Int32.ofNat d) ∨ (s0 = 1 ∧ d < 3 ∧ OPN kc ∧ Iq 60 3 = Int32.ofNat (d + 1) ∧ Iq 66 d = Int32.ofNat E)) := fun {kc} z1 z2 z3 z4 => ⟨kc, Ia, z4, z2, fun o k y1 y2 y3 y4 => r4 o k y1 y2, r5, Or.inl ⟨z1, z3, id3⟩⟩
    have map : ∀ {A B : Prop}, (A → B) → OUT t v3 w3 I3 I4 A → OUT t v3 w3 I3 I4 B := fun f q => by
      rcases q with q | ⟨q1, q2, q3⟩
      · exact Or.inl q
      · exact Or.inr ⟨q1, q2, f q3⟩
    have op : d < 3 → f55_60 Ia Ja = ((), tup (tup Ia 66 d (Int32.ofNat E)) 60 3 (Int32.ofNat (d + 1)), Ja) := fun hd => by
      unfold f55_60
      rw [id3, show xcmp .ge (Int32.ofNat d) 3 = decide (3 ≤ d) from oi_ge (q := 3) (by omega) (by omega), decide_eq_false (by omega), cond_false, oi_nat (p := d) (by omega), iE, oi_suc (by omega)]
    have opened : ∀ {kc : Int32}, s0 = 1 → d < 3 → OPN kc → PA t n b P S B E kc (tup (tup Ia 66 d (Int32.ofNat E)) 60 3 (Int32.ofNat (d + 1))) Ja Ib Jb I3 J3 I4 J4 → ∃ kc Iq, PA t n b P S B E kc Iq Ja Ib Jb I3 J3 I4 J4 ∧ kc ≠ 11 ∧ (∀ o k, o ≠ 8 → ¬ (o = 61 ∧ k = 1) → ¬ (o = 60 ∧ k = 3) → ¬ (o = 66 ∧ k = d) → Iq o k = Ic o k) ∧ Iq 61 1 = Int32.ofNat (a + 1) ∧ ((s0 = 0 ∧ ¬ OPN kc ∧ Iq 60 3 = Int32.ofNat d) ∨ (s0 = 1 ∧ d < 3 ∧ OPN kc ∧ Iq 60 3 = Int32.ofNat (d + 1) ∧ Iq 66 d = Int32.ofNat E)) := fun {kc} z1 z2 z3 z4 => ⟨kc, _, z4, OPN_11 z3, fun o k y1 y2 y3 y4 => by rw [tup_ne y3, tup_ne y4]; exact r4 o k y1 y2, by rw [tup_ne (by omega), tup_ne (by omega)]; exact r5, Or.inr ⟨z1, z2, z3, tup_eq, by rw [tup_ne (by omega), tup_eq]⟩⟩
    have r1' : R0 t n b (tup (tup Ia 66 d (Int32.ofNat E)) 60 3 (Int32.ofNat (d + 1))) Ja Ib := R0_cg r1 (fun k _ => by rw [tup_ne (by omega), tup_ne (by omega)]) (fun o k ho => by rw [tup_ne (by omega), tup_ne (by omega)]) rfl (fun _ _ _ => rfl) (fun _ _ _ => rfl)
    have iE' : tup (tup Ia 66 d (Int32.ofNat E)) 60 3 (Int32.ofNat (d + 1)) 61 2 = Int32.ofNat E := by rw [tup_ne (by omega), tup_ne (by omega)]; exact iE
    have hN'' : NWn P S B (tup (tup Ia 66 d (Int32.ofNat E)) 60 3 (Int32.ofNat (d + 1))) Ja Ib Jb := NWn_cg hN' (fun o k _ _ => by rw [tup_ne (by omega), tup_ne (by omega)]) (fun _ _ _ => rfl) (fun _ _ => rfl) rfl
    obtain ⟨-, ⟨g1, g2, g3, g4, g5, g6⟩, m2, m3, m4⟩ := id hN'
    have p0 : Int32.ofNat (2732 + 6 * E) + 1 = Int32.ofNat (2732 + 6 * E + 1) := pk (x := 1) (by omega) rfl (by omega)
    have p1 : (Int32.ofNat (2732 + 6 * E) + 1).toNatClampNeg = 2732 + 6 * E + 1 := by rw [p0, oi_nat (by omega)]
    rcases hx with ⟨rfl, rfl, hs⟩ | ⟨rfl, rfl, hs⟩ | ⟨rfl, rfl, hs⟩ | ⟨rfl, rfl, hs⟩ | ⟨rfl, rfl, hs⟩ | ⟨rfl, rfl, hs, hd⟩ | ⟨rfl, rfl, hs, hd⟩
    · rw [show xcmp .eq (21 : Int32) 21 = true from rfl, cond_true] at hc
      replace hc := obI hc
      obtain ⟨v4, Ix, Jx, q3, hc⟩ := hc
      cases hc
      exact map (plain hs (by decide) (nOPN (Or.inl (by decide)))) (buy_a hB g3 g6 m4 r7 iE hE6 r1 q3 q2)
    · rw [show xcmp .eq (22 : Int32) 21 = false from rfl, cond_false, show xcmp .eq (22 : Int32) 22 = true from rfl, cond_true] at hc
      replace hc := obI hc
      obtain ⟨v4, Ix, Jx, q3, hc⟩ := hc
      cases hc
      unfold f248_185 at q2
      rw [show xcmp .eq (22 : Int32) 21 = false from rfl, cond_false, show xcmp .eq (22 : Int32) 22 = true from rfl, cond_true] at q2
      replace q2 := obI q2
      obtain ⟨w4, Iy, Jy, q4, q2⟩ := q2
      cases q2
      exact map (plain hs (by decide) (nOPN (Or.inl (by decide)))) (cnt_a (m := 20) p1 rfl (by omega) (Or.inl ⟨rfl, by omega, r7⟩) iE hE6 r1 q3 q4)
    · rw [show xcmp .eq (23 : Int32) 21 = false from rfl, cond_false, show xcmp .eq (23 : Int32) 22 = false from rfl, cond_false, show xcmp .eq (23 : Int32) 23 = true from rfl, cond_true] at hc
      replace hc := obI hc
      obtain ⟨v4, Ix, Jx, q3, hc⟩ := hc
      cases hc
      exact map (plain hs (by decide) (nOPN (Or.inl (by decide)))) (give_a hB g3 g6 m4 r7 iE hE6 r1 q3 q2)
    · rw [show xcmp .eq (24 : Int32) 21 = false from rfl, cond_false, show xcmp .eq (24 : Int32) 22 = false from rfl, cond_false, show xcmp .eq (24 : Int32) 23 = false from rfl, cond_false, show xcmp .eq (24 : Int32) 24 = true from rfl, cond_true, add_is iE hE6] at hc
      dsimp only at hc
      cases hc
      unfold f248_185 at q2
      rw [show xcmp .eq (24 : Int32) 21 = false from rfl, cond_false, show xcmp .eq (24 : Int32) 22 = false from rfl, cond_false, show xcmp .eq (24 : Int32) 23 = false from rfl, cond_false, show xcmp .eq (24 : Int32) 25 = false from rfl, cond_false, show xcmp .eq (24 : Int32) 26 = false from rfl, cond_false] at q2
      cases q2
      obtain ⟨y1, y2, y3, y4, y5⟩ := adI_v (I := Ia) (E := E) (x := 3) (y := 0) (z := 0)
      exact Or.inr ⟨rfl, rfl, plain hs (by decide) (nOPN (Or.inl (by decide))) ⟨R0_cg r1 (fun k _ => adI_o (by omega) (by omega)) (fun o k ho => adI_o (by omega) (by omega)) rfl (fun _ _ _ => rfl) (fun _ _ _ => rfl), fun _ _ _ => rfl, rfl, ⟨0, 0, ⟨y1, y2, y3, y4, y5⟩, by rw [r7]; exact Or.inr (Or.inr (Or.inr (Or.inl ⟨rfl, rfl⟩)))⟩, fun o k _ z1 z2 => adI_o z1 z2, fun _ _ _ _ => rfl⟩⟩
    · rw [show xcmp .eq (30 : Int32) 21 = false from rfl, cond_false, show xcmp .eq (30 : Int32) 22 = false from rfl, cond_false, show xcmp .eq (30 : Int32) 23 = false from rfl, cond_false, show xcmp .eq (30 : Int32) 24 = false from rfl, cond_false, show xcmp .eq (30 : Int32) 25 = false from rfl, cond_false, show xcmp .eq (30 : Int32) 28 = false from rfl, cond_false, add_is iE hE6] at hc
      dsimp only at hc
      cases hc
      unfold f248_185 at q2
      rw [show xcmp .eq (28 : Int32) 21 = false from rfl, cond_false, show xcmp .eq (28 : Int32) 22 = false from rfl, cond_false, show xcmp .eq (28 : Int32) 23 = false from rfl, cond_false, show xcmp .eq (28 : Int32) 25 = false from rfl, cond_false, show xcmp .eq (28 : Int32) 26 = false from rfl, cond_false] at q2
      cases q2
      obtain ⟨y1, y2, y3, y4, y5⟩ := adI_v (I := Ia) (E := E) (x := 4) (y := 0) (z := 0)
      exact Or.inr ⟨rfl, rfl, plain hs (by decide) (nOPN (Or.inl (by decide))) ⟨R0_cg r1 (fun k _ => adI_o (by omega) (by omega)) (fun o k ho => adI_o (by omega) (by omega)) rfl (fun _ _ _ => rfl) (fun _ _ _ => rfl), fun _ _ _ => rfl, rfl, ⟨0, 0, ⟨y1, y2, y3, y4, y5⟩, by rw [r7]; exact Or.inr (Or.inr (Or.inr (Or.inr (Or.inl ⟨rfl, rfl⟩))))⟩, fun o k _ z1 z2 => adI_o z1 z2, fun _ _ _ _ => rfl⟩⟩
    · rw [show xcmp .eq (25 : Int32) 21 = false from rfl, cond_false, show xcmp .eq (25 : Int32) 22 = false from rfl, cond_false, show xcmp .eq (25 : Int32) 23 = false from rfl, cond_false, show xcmp .eq (25 : Int32) 24 = false from rfl, cond_false, show xcmp .eq (25 : Int32) 25 = true from rfl, cond_true, op hd] at hc
      dsimp only at hc
      replace hc := obI hc
      obtain ⟨v4, Ix, Jx, q3, hc⟩ := hc
      cases hc
      unfold f248_185 at q2
      rw [show xcmp .eq (25 : Int32) 21 = false from rfl, cond_false, show xcmp .eq (25 : Int32) 22 = false from rfl, cond_false, show xcmp .eq (25 : Int32) 23 = false from rfl, cond_false, show xcmp .eq (25 : Int32) 25 = true from rfl, cond_true] at q2
      replace q2 := obI q2
      obtain ⟨w4, Iy, Jy, q4, q2⟩ := q2
      cases q2
      exact map (fun ⟨kc, z1, z2⟩ => opened hs hd z1 z2) (test_a hN'' iE' hE6 r1' q3 q4)
    · rw [show xcmp .eq (28 : Int32) 21 = false from rfl, cond_false, show xcmp .eq (28 : Int32) 22 = false from rfl, cond_false, show xcmp .eq (28 : Int32) 23 = false from rfl, cond_false, show xcmp .eq (28 : Int32) 24 = false from rfl, cond_false, show xcmp .eq (28 : Int32) 25 = false from rfl, cond_false, show xcmp .eq (28 : Int32) 28 = true from rfl, cond_true, op hd] at hc
      dsimp only at hc
      replace hc := obI hc
      obtain ⟨v4, Ix, Jx, q3, hc⟩ := hc
      cases hc
      unfold f248_185 at q2
      rw [show xcmp .eq (26 : Int32) 21 = false from rfl, cond_false, show xcmp .eq (26 : Int32) 22 = false from rfl, cond_false, show xcmp .eq (26 : Int32) 23 = false from rfl, cond_false, show xcmp .eq (26 : Int32) 25 = false from rfl, cond_false, show xcmp .eq (26 : Int32) 26 = true from rfl, cond_true] at q2
      replace q2 := obI q2
      obtain ⟨w4, Iy, Jy, q4, q2⟩ := q2
      cases q2
      exact map (opened hs hd (by unfold OPN; decide)) (cnt_a (m := 99) p1 rfl (by omega) (Or.inr ⟨rfl, r7⟩) iE' hE6 r1' q3 q4)
  rcases hargs with ⟨rfl, rfl, hF⟩ | ⟨rfl, rfl, kc, Iq, hPA, h11, cq, c1, hs⟩
  · rw [n00, cond_false] at hr
    cases hr
    exact Or.inl ⟨rfl, rfl, hF⟩
  · rw [n10, cond_true] at hr
    exact Or.inr ⟨rfl, fun hc => end_act hD ha h27 h11 hPA r2 r3 cq c1 r6 r8 r9 hs hc hr⟩
end RU5
