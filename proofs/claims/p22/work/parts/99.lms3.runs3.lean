/-! RUNS READ: tests -/
section RU3
variable {t : Nat → Int32} {n N N' P S B W D E : Nat} {Ic Ir Ic' Ir' I1 I2 Ia Ib I : tI} {Jc Jr J1 J2 J Ja Jb : tJ} {v w : Int32} {u u' : Unit} {b : Int}
def NWn (P S B : Nat) (Ic : tI) (Jc : tJ) (Ir : tI) (Jr : tJ) : Prop := (P ≤ 5 ∧ S ≤ 6 ∧ B ≤ 4) ∧ (Ic 12 0 = Int32.ofNat P ∧ Ic 21 0 = Int32.ofNat S ∧ Ic 10 6 = Int32.ofNat B ∧ Ir 186 2 = Int32.ofNat P ∧ Ir 186 3 = Int32.ofNat S ∧ Ir 186 4 = Int32.ofNat B) ∧ (∀ p, p < P → RN (Jc 13 p) (Jr 187 (0 + p))) ∧ (∀ i, i < S → RN (Jc 22 i) (Jr 187 (5 + i))) ∧ ∀ x, x < B → RN (Jc 31 x) (Jr 187 (11 + x))
theorem NWn_cg (h : NWn P S B Ic Jc Ir Jr) (c : ∀ o k, 10 ≤ o → o ≤ 34 → I1 o k = Ic o k) (j : gJ Jc J1) (r : ∀ k, k < 2480 → I2 186 k = Ir 186 k) (jr : J2 = Jr) : NWn P S B I1 J1 I2 J2 := by
  obtain ⟨h1, ⟨a1, a2, a3, a4, a5, a6⟩, h2, h3, h4⟩ := h
  subst jr
  refine ⟨h1, ⟨by rw [c _ _ (by omega) (by omega)]; exact a1, by rw [c _ _ (by omega) (by omega)]; exact a2, by rw [c _ _ (by omega) (by omega)]; exact a3, by rw [r _ (by omega)]; exact a4, by rw [r _ (by omega)]; exact a5, by rw [r _ (by omega)]; exact a6⟩, fun p hp => ?_, fun p hp => ?_, fun p hp => ?_⟩
  · rw [j _ _ (by omega)]; exact h2 p hp
  · rw [j _ _ (by omega)]; exact h3 p hp
  · rw [j _ _ (by omega)]; exact h4 p hp
theorem f36_is {I : tI} {J : tJ} : f36_8 I J = if I 8 2 = 3 ∧ I 8 7 ≠ 59 then (1, I, J) else (0, (f33_8 I J 2).2.1, J) := by
  unfold f36_8
  rw [f33_is]
  dsimp only
  by_cases h : I 8 2 = 3
  · rw [xc_nen h, cond_false]
    by_cases h2 : I 8 7 = 59
    · rw [xc_nen h2, cond_false, if_neg (show ¬ (I 8 2 = 3 ∧ I 8 7 ≠ 59) from fun q => q.2 h2), q00, cond_true]
    · rw [xc_ne h2, cond_true, if_pos ⟨h, h2⟩]
  · rw [xc_ne h, cond_true, if_neg (show ¬ (I 8 2 = 3 ∧ I 8 7 ≠ 59) from fun q => h q.1), q00, cond_true]
theorem sgn_no (h : R0 t n b Ic Jc Ir) (h3 : Ic 8 2 ≠ 3) : Ir 185 12 ≠ 4 := by
  obtain ⟨s0, e0, -, -, -, -, -, -, hk⟩ := RT_cases h.1
  rcases hk with ⟨a, c, -⟩ | ⟨a, c, -⟩ | ⟨a, c, -⟩ | ⟨a, c, -⟩ | ⟨a, c, -⟩
  · rw [c]; decide
  · rw [c]; decide
  · rw [c]; decide
  · exact absurd a h3
  · rw [c]; decide
/-- is there: a person; is shown: a sight -/
theorem seen_a {x2 : Int32} (hx : (x2 = 26 ∧ Ir 186 (2732 + 6 * E) = 2529) ∨ (x2 = 27 ∧ Ir 186 (2732 + 6 * E) = 2530)) (hN : NWn P S B Ic Jc Ir Jr) (hE : Ic 61 2 = Int32.ofNat E) (h6 : E < 60) (h : R0 t n b Ic Jc Ir) (hc : (bif xcmp .eq (if x2 = 26 then (1 : Int32) else 0) 0 then (match f39_8_13 N Ic Jc (Ic 12 0) with | none => none | some (v6, I6, J6) => f59_60_10_j107 N I6 J6 (if x2 = 26 then (1 : Int32) else 0) v6) else (match f39_8_22 N Ic Jc (Ic 21 0) with | none => none | some (v7, I7, J7) => f59_60_10_j107 N I7 J7 (if x2 = 26 then (1 : Int32) else 0) v7)) = some (v, I1, J1)) (hr : (if x2 = 26 then f245_185 N' Ir Jr 5 (Ir 186 3) (Int32.ofNat (2732 + 6 * E + 1)) else f245_185 N' Ir Jr 0 (Ir 186 2) (Int32.ofNat (2732 + 6 * E + 1))) = some (w, I2, J2)) : OUT t v w I1 I2 (∃ kc, OPN kc ∧ PA t n b P S B E kc Ic Jc Ir Jr I1 J1 I2 J2) := by
  obtain ⟨⟨hP, hS, hB⟩, ⟨a1, a2, a3, a4, a5, a6⟩, h2, h3, h4⟩ := hN
  have fin : ∀ {kc : Int32} {x : Nat} {Ie : tI} {Je : tJ}, (∀ y, RRw P S B kc (Int32.ofNat x) 0 (Ir 186 (2732 + 6 * E)) (Int32.ofNat x) (Ir 186 (2732 + 6 * E + 2)) y) → OPN kc → f25_8 N (adI (tup Ic 8 8 (Int32.ofNat x)) E kc (Int32.ofNat x) 0) Jc = some ((), Ie, Je) → f222_185 N' (tup Ir 186 (2732 + 6 * E + 1) (Int32.ofNat x)) Jr = some ((), I2, J2) → ∃ kc, OPN kc ∧ PA t n b P S B E kc Ic Jc Ir Jr Ie Je I2 J2 := fun {kc x Ie Je} hR hO q1 q2 => by
    obtain ⟨r1, r2, r3, r4', r5⟩ := adv2 h q1 q2 (fun o k q z => by rw [adI_o (by omega) (by omega)]; exact tup_ne (by omega)) (fun o k q => tup_ne (by omega))
    obtain ⟨y1, y2, y3, y4, y5⟩ := adI_v (I := tup Ic 8 8 (Int32.ofNat x)) (E := E) (x := kc) (y := Int32.ofNat x) (z := 0)
    refine ⟨kc, hO, r1, r3, r5, ⟨Int32.ofNat x, 0, ⟨by rw [r2 _ _ (by omega)]; exact y1, by rw [r2 _ _ (by omega)]; exact y2, by rw [r2 _ _ (by omega)]; exact y3, by rw [r2 _ _ (by omega)]; exact y4, by rw [r2 _ _ (by omega)]; exact y5⟩, ?_⟩, fun o k q3 q4 q5 => by rw [r2 _ _ (by omega), adI_o q4 q5]; exact tup_ne (by omega), fun o k q3 q4 => by rw [r4' _ _ (by omega)]; exact tup_ne (by omega)⟩
    rw [r4' _ _ (by omega), r4' _ _ (by omega), r4' _ _ (by omega), r4' _ _ (by omega), tup_ne (by omega), tup_eq, tup_ne (by omega)]
    exact hR _
  have hE' : ∀ {x : Nat}, tup Ic 8 8 (Int32.ofNat x) 61 2 = Int32.ofNat E := fun {x} => by rw [tup_ne (by omega)]; exact hE
  rcases hx with ⟨rfl, k0⟩ | ⟨rfl, k0⟩
  · rw [if_pos rfl] at hc hr
    rw [q10, cond_false, a2] at hc
    rw [a5] at hr
    replace hc := obI hc
    obtain ⟨v1, Ia, Ja, q1, hc⟩ := hc
    unfold f59_60_10_j107 at hc
    rcases old_rel_22 (to := 2732 + 6 * E + 1) (by omega) h hS h3 q1 hr with ⟨rfl, rfl, hF⟩ | ⟨rfl, rfl, x, hx, rfl, rfl, q3⟩
    · rw [n00, cond_false] at hc
      cases hc
      exact Or.inl ⟨rfl, rfl, hF⟩
    · rw [n10, cond_true, q10, cond_false, add_is hE' h6, tup_eq] at hc
      dsimp only at hc
      replace hc := obU hc
      obtain ⟨_, Ie, Je, q4, hc⟩ := hc
      cases hc
      exact Or.inr ⟨rfl, rfl, fin (fun y => Or.inr (Or.inr (Or.inr (Or.inr (Or.inr (Or.inr (Or.inl ⟨rfl, k0, x, hx, rfl, rfl⟩))))))) (by unfold OPN; decide) q4 q3⟩
  · rw [if_neg (by decide)] at hc hr
    rw [q00, cond_true, a1] at hc
    rw [a4] at hr
    replace hc := obI hc
    obtain ⟨v1, Ia, Ja, q1, hc⟩ := hc
    unfold f59_60_10_j107 at hc
    rcases old_rel_13 (to := 2732 + 6 * E + 1) (by omega) h hP h2 q1 hr with ⟨rfl, rfl, hF⟩ | ⟨rfl, rfl, x, hx, rfl, rfl, q3⟩
    · rw [n00, cond_false] at hc
      cases hc
      exact Or.inl ⟨rfl, rfl, hF⟩
    · rw [n10, cond_true, q00, cond_true, add_is hE' h6, tup_eq] at hc
      dsimp only at hc
      replace hc := obU hc
      obtain ⟨_, Ie, Je, q4, hc⟩ := hc
      cases hc
      exact Or.inr ⟨rfl, rfl, fin (fun y => Or.inr (Or.inr (Or.inr (Or.inr (Or.inr (Or.inr (Or.inr (Or.inl ⟨rfl, k0, x, hx, rfl, rfl⟩)))))))) (by unfold OPN; decide) q4 q3⟩
/-- how many coins, against a number -/
theorem coin_a {kc x : Int32} {z : Nat} (hz : z < B) (hx : Ic 8 7 = x) (hx' : Ir 185 15 = x) (hk : (kc = 8 ∧ x = 60) ∨ (kc = 9 ∧ x = 62) ∨ (kc = 10 ∧ x = 61)) (k0 : Ir 186 (2732 + 6 * E) = 2520) (k1 : Ir 186 (2732 + 6 * E + 1) = Int32.ofNat z) (hE : Ic 61 2 = Int32.ofNat E) (h6 : E < 60) (h : R0 t n b Ic Jc Ir) (hc : f60_60_10_j90 N Ic Jc (Int32.ofNat z) kc = some (v, I1, J1)) (hr : f247_185_j133 N' Ir Jr (Int32.ofNat (2732 + 6 * E)) = some (w, I2, J2)) : OUT t v w I1 I2 (∃ kc, OPN kc ∧ PA t n b P S B E kc Ic Jc Ir Jr I1 J1 I2 J2) := by
  have p2 : Int32.ofNat (2732 + 6 * E) + 2 = Int32.ofNat (2732 + 6 * E + 2) := pk (x := 2) (by omega) rfl (by omega)
  have p5 : Int32.ofNat (2732 + 6 * E) + 5 = Int32.ofNat (2732 + 6 * E + 5) := pk (x := 5) (by omega) rfl (by omega)
  unfold f60_60_10_j90 at hc
  unfold f247_185_j133 at hr
  rw [p2, p5, oi_nat (p := 2732 + 6 * E + 5) (by omega), hx'] at hr
  replace hc := obU hc
  obtain ⟨_, Ia, Ja, q1, hc⟩ := hc
  replace hr := obU hr
  obtain ⟨_, Ib, Jb, q2, hr⟩ := hr
  obtain ⟨s1, s2, s3, s4, s5⟩ := adv2 h q1 q2 (fun _ _ _ _ => rfl) (fun o k q => tup_ne (by omega))
  obtain ⟨⟨v1, Id, Jd⟩, q3⟩ := exq (f37_8 Ia Ja 0 9999)
  rw [q3] at hc
  dsimp only at hc
  replace hr := obI hr
  obtain ⟨w6, Ig, Jg, q6, hr⟩ := hr
  cases hr
  rcases num_rel s1 q3 q6 with ⟨rfl, rfl, hF⟩ | ⟨rfl, rfl, rfl, rfl, k2, lo, hi, q6⟩
  · rw [n00, cond_false] at hc
    cases hc
    exact Or.inl ⟨rfl, rfl, hF⟩
  · rw [n10, cond_true, add_is (E := E) (by rw [s2 _ _ (by omega)]; exact hE) h6] at hc
    dsimp only at hc
    replace hc := obU hc
    obtain ⟨_, Ih, Jh, q7, hc⟩ := hc
    cases hc
    rw [oi_nat (p := 2732 + 6 * E + 2) (by omega)] at q6
    obtain ⟨r1, r2, r3, r4', r5⟩ := adv2 s1 q7 q6 (fun o k q z => adI_o (by omega) (by omega)) (fun o k q => tup_ne (by omega))
    obtain ⟨y1, y2, y3, y4, y5⟩ := adI_v (I := Id) (E := E) (x := kc) (y := Int32.ofNat z) (z := Id 8 7)
    refine Or.inr ⟨rfl, rfl, kc, ?_, r1, fun o k q => (r3 o k q).trans (s3 o k q), r5.trans s5, ⟨Int32.ofNat z, Id 8 7, ⟨by rw [r2 _ _ (by omega)]; exact y1, by rw [r2 _ _ (by omega)]; exact y2, by rw [r2 _ _ (by omega)]; exact y3, by rw [r2 _ _ (by omega)]; exact y4, by rw [r2 _ _ (by omega)]; exact y5⟩, ?_⟩, fun o k q3 q4 q5 => by rw [r2 _ _ (by omega), adI_o q4 q5]; exact s2 _ _ (by omega), fun o k q3 q4 => by rw [r4' _ _ (by omega), tup_ne (by omega), s4 _ _ (by omega)]; exact tup_ne (by omega)⟩
    · unfold OPN
      rcases hk with ⟨rfl, -⟩ | ⟨rfl, -⟩ | ⟨rfl, -⟩ <;> decide
    · rw [r4' _ _ (by omega), r4' _ _ (by omega), r4' _ _ (by omega), r4' _ _ (by omega), tup_ne (by omega), tup_ne (by omega), tup_eq, tup_ne (by omega), s4 _ _ (by omega), s4 _ _ (by omega), s4 _ _ (by omega), tup_ne (by omega), tup_ne (by omega), tup_eq, k0, k1]
      exact Or.inr (Or.inr (Or.inr (Or.inr (Or.inr (Or.inr (Or.inr (Or.inr (Or.inl ⟨hk, rfl, ⟨z, hz, rfl, rfl⟩, rfl⟩))))))))
theorem PA_tr {kc : Int32} {t : Nat → Int32} {Ie Ig : tI} {Je Jg : tJ} (h : PA t n b P S B E kc Ie Je Ig Jg I1 J1 I2 J2) (c : ∀ o k, o ≠ 8 → Ie o k = Ic o k) (j : gJ Jc Je) (jr : Jg = Jr) (r : ∀ o k, ¬ (o = 185 ∧ 12 ≤ k ∧ k ≤ 15) → ¬ (o = 186 ∧ 2732 + 6 * E ≤ k ∧ k < 2738 + 6 * E) → Ig o k = Ir o k) : PA t n b P S B E kc Ic Jc Ir Jr I1 J1 I2 J2 := by
  obtain ⟨h1, h2, h3, h4, h5, h6⟩ := h
  exact ⟨h1, fun o k q => (h2 o k q).trans (j o k q), h3.trans jr, h4, fun o k q1 q2 q3 => (h5 o k q1 q2 q3).trans (c o k q1), fun o k q1 q2 => (h6 o k q1 q2).trans (r o k q1 q2)⟩
theorem test_a (hN : NWn P S B Ic Jc Ir Jr) (hE : Ic 61 2 = Int32.ofNat E) (h6 : E < 60) (h : R0 t n b Ic Jc Ir) (hc : f59_60_10 N Ic Jc = some (v, I1, J1)) (hr : f247_185 N' Ir Jr (Int32.ofNat (2732 + 6 * E)) = some (w, I2, J2)) : OUT t v w I1 I2 (∃ kc, OPN kc ∧ PA t n b P S B E kc Ic Jc Ir Jr I1 J1 I2 J2) := by
  have p1 : Int32.ofNat (2732 + 6 * E) + 1 = Int32.ofNat (2732 + 6 * E + 1) := pk (x := 1) (by omega) rfl (by omega)
  unfold f247_185 at hr
  replace hr := obI hr
  obtain ⟨w1, Ia, Ja, b1, hr⟩ := hr
  obtain ⟨ww, eq, hRW⟩ := RT_word h.1 b1
  cases eq
  have h29 : w1 = 29 ↔ Ic 8 5 = 26 := RW_iff hRW 29 (by decide)
  have h30 : w1 = 30 ↔ Ic 8 5 = 27 := RW_iff hRW 30 (by decide)
  have h20 : w1 = 20 ↔ Ic 8 5 = 15 := RW_iff hRW 20 (by decide)
  have rbad : f225_185 Ir Jr 2 = (w, I2, J2) → f33_8 Ic Jc 2 = (v, I1, J1) → OUT t v w I1 I2 (∃ kc, OPN kc ∧ PA t n b P S B E kc Ic Jc Ir Jr I1 J1 I2 J2) := fun q1 q2 => by
    rw [f225_is h.2.1] at q1
    rw [f33_is] at q2
    cases q1
    cases q2
    exact Or.inl ⟨rfl, rfl, RF_of h (by decide)⟩
  unfold f59_60_10 at hc
  by_cases k29 : w1 = 29
  · have c26 := h29.mp k29
    subst k29
    rw [c26, show xcmp .ne (26 : Int32) 15 = true from rfl, cond_true, show xcmp .ne (26 : Int32) 26 = false from rfl, cond_false] at hc
    rw [show xcmp .eq (29 : Int32) 29 = true from rfl, cond_true] at hr
    unfold f59_60_10_j31 f59_60_10_j51 at hc
    unfold f247_185_j31 at hr
    rw [n10, cond_true] at hc
    rw [show xcmp .ne (29 : Int32) 29 = false from rfl, p1, oi_nat (p := 2732 + 6 * E) (by omega)] at hr
    replace hc := obU hc
    obtain ⟨_, Ie, Je, q1, hc⟩ := hc
    replace hr := obU hr
    obtain ⟨_, Ig, Jg, q2, hr⟩ := hr
    rw [cond_false] at hr
    replace hr := obI hr
    obtain ⟨w6, Ik, Jk, q6, hr⟩ := hr
    cases hr
    obtain ⟨s1, s2, s3, s4, s5⟩ := adv2 h q1 q2 (fun _ _ _ _ => rfl) (fun o k q => tup_ne (by omega))
    have hN' := NWn_cg hN (fun o k _ _ => s2 o k (by omega)) s3 (fun k hk => (s4 _ _ (by omega)).trans (tup_ne (by omega))) s5
    rcases seen_a (x2 := 26) (Or.inl ⟨rfl, by rw [s4 _ _ (by omega), tup_eq]; rfl⟩) hN' (by rw [s2 _ _ (by omega)]; exact hE) h6 s1 hc q6 with ⟨z1, z2, z3⟩ | ⟨z1, z2, kc, hO, hPA⟩
    · exact Or.inl ⟨z1, z2, z3⟩
    · exact Or.inr ⟨z1, z2, kc, hO, PA_tr hPA (fun o k q => s2 o k (by omega)) s3 s5 (fun o k q1 q2 => (s4 o k (by omega)).trans (tup_ne (by omega)))⟩
  rw [xc_eqn k29, cond_false] at hr
  by_cases k30 : w1 = 30
  · have c27 := h30.mp k30
    subst k30
    rw [c27, show xcmp .ne (27 : Int32) 15 = true from rfl, cond_true, show xcmp .ne (27 : Int32) 26 = true from rfl, cond_true] at hc
    rw [show xcmp .eq (30 : Int32) 30 = true from rfl, cond_true] at hr
    unfold f59_60_10_j31 f59_60_10_j51 at hc
    unfold f247_185_j31 at hr
    rw [n00, cond_false, show xcmp .eq (27 : Int32) 27 = true from rfl, cond_true] at hc
    rw [show xcmp .ne (30 : Int32) 29 = true from rfl, show xcmp .ne (30 : Int32) 30 = false from rfl, p1, oi_nat (p := 2732 + 6 * E) (by omega)] at hr
    replace hc := obU hc
    obtain ⟨_, Ie, Je, q1, hc⟩ := hc
    replace hr := obU hr
    obtain ⟨_, Ig, Jg, q2, hr⟩ := hr
    rw [cond_true, cond_false] at hr
    replace hr := obI hr
    obtain ⟨w6, Ik, Jk, q6, hr⟩ := hr
    cases hr
    obtain ⟨s1, s2, s3, s4, s5⟩ := adv2 h q1 q2 (fun _ _ _ _ => rfl) (fun o k q => tup_ne (by omega))
    have hN' := NWn_cg hN (fun o k _ _ => s2 o k (by omega)) s3 (fun k hk => (s4 _ _ (by omega)).trans (tup_ne (by omega))) s5
    rcases seen_a (x2 := 27) (Or.inr ⟨rfl, by rw [s4 _ _ (by omega), tup_eq]; rfl⟩) hN' (by rw [s2 _ _ (by omega)]; exact hE) h6 s1 hc q6 with ⟨z1, z2, z3⟩ | ⟨z1, z2, kc, hO, hPA⟩
    · exact Or.inl ⟨z1, z2, z3⟩
    · exact Or.inr ⟨z1, z2, kc, hO, PA_tr hPA (fun o k q => s2 o k (by omega)) s3 s5 (fun o k q1 q2 => (s4 o k (by omega)).trans (tup_ne (by omega)))⟩
  rw [xc_eqn k30, cond_false] at hr
  by_cases k20 : w1 = 20
  · have c15 := h20.mp k20
    subst k20
    obtain ⟨⟨hP, hS, hB⟩, ⟨a1, a2, a3, a4, a5, a6⟩, hn2, hn3, hn4⟩ := id hN
    rw [c15, show xcmp .ne (15 : Int32) 15 = false from rfl, cond_false] at hc
    rw [show xcmp .eq (20 : Int32) 20 = true from rfl, cond_true] at hr
    replace hc := obI hc
    obtain ⟨v9, Im, Jm, hc1, hc⟩ := hc
    cases hc
    unfold f60_60_10 at hc1
    unfold f247_185_j31 at hr
    rw [show xcmp .ne (20 : Int32) 29 = true from rfl, show xcmp .ne (20 : Int32) 30 = true from rfl, p1, oi_nat (p := 2732 + 6 * E) (by omega)] at hr
    replace hc1 := obU hc1
    obtain ⟨_, Ie, Je, q1, hc1⟩ := hc1
    replace hr := obU hr
    obtain ⟨_, Ig, Jg, q2, hr⟩ := hr
    rw [cond_true, cond_true] at hr
    obtain ⟨s1, s2, s3, s4, s5⟩ := adv2 h q1 q2 (fun _ _ _ _ => rfl) (fun o k q => tup_ne (by omega))
    replace hc1 := obI hc1
    obtain ⟨v2, If, Jf, q3, hc1⟩ := hc1
    replace hr := obI hr
    obtain ⟨w2, Ih, Jh, q4, hr⟩ := hr
    unfold f246_185 at q4
    replace q4 := obI q4
    obtain ⟨w7, Ii, Ji, q8, q4⟩ := q4
    cases q4
    rw [s2 _ _ (by omega), a3] at q3
    rw [s4 _ _ (by omega), tup_ne (by omega), a6] at q8
    rcases old_rel_31 (to := 2732 + 6 * E + 1) (by omega) s1 hB (fun y hy => by rw [s3 _ _ (by omega), s5]; exact hn4 y hy) q3 q8 with ⟨rfl, rfl, hF⟩ | ⟨rfl, rfl, y, hy, rfl, rfl, q8⟩
    · rw [n00, cond_false] at hc1 hr
      cases hc1
      cases hr
      exact Or.inl ⟨rfl, rfl, hF⟩
    · rw [n10, cond_true] at hc1 hr
      replace hc1 := obU hc1
      obtain ⟨_, Io, Jo, q9, hc1⟩ := hc1
      obtain ⟨g1, g2, g3, g4, g5⟩ := adv2 s1 q9 q8 (fun o k q z => tup_ne (by omega)) (fun o k q => tup_ne (by omega))
      rw [f36_is, tup_eq] at hc1
      rw [f223_is] at hr
      dsimp only at hr
      have fc : ∀ o k, o ≠ 8 → Io o k = Ic o k := fun o k q => by rw [g2 _ _ (by omega), tup_ne (by omega), s2 _ _ (by omega)]
      have fr : ∀ o k, ¬ (o = 185 ∧ 12 ≤ k ∧ k ≤ 15) → ¬ (o = 186 ∧ 2732 + 6 * E ≤ k ∧ k < 2738 + 6 * E) → Ih o k = Ir o k := fun o k q1 q2 => by rw [g4 _ _ (by omega), tup_ne (by omega), s4 _ _ (by omega), tup_ne (by omega)]
      have k0 : Ih 186 (2732 + 6 * E) = 2520 := by rw [g4 _ _ (by omega), tup_ne (by omega), s4 _ _ (by omega), tup_eq]; rfl
      have k1 : Ih 186 (2732 + 6 * E + 1) = Int32.ofNat y := by rw [g4 _ _ (by omega), tup_eq]
      have fin : ∀ {kc x : Int32}, Io 8 7 = x → Ih 185 15 = x → ((kc = 8 ∧ x = 60) ∨ (kc = 9 ∧ x = 62) ∨ (kc = 10 ∧ x = 61)) → f60_60_10_j90 N Io Jo (Int32.ofNat y) kc = some (v, I1, J1) → f247_185_j133 N' Ih Jh (Int32.ofNat (2732 + 6 * E)) = some (w, I2, J2) → OUT t v w I1 I2 (∃ kc, OPN kc ∧ PA t n b P S B E kc Ic Jc Ir Jr I1 J1 I2 J2) := fun e1 e2 e3 e4 e5 => by
        rcases coin_a hy e1 e2 e3 k0 k1 (by rw [fc _ _ (by omega)]; exact hE) h6 g1 e4 e5 with ⟨z1, z2, z3⟩ | ⟨z1, z2, kc, hO, hPA⟩
        · exact Or.inl ⟨z1, z2, z3⟩
        · exact Or.inr ⟨z1, z2, kc, hO, PA_tr hPA fc (fun o k q => (g3 o k q).trans (s3 o k q)) (g5.trans s5) fr⟩
      have rbad2 : f225_185 Ih Jh 2 = (w, I2, J2) → some ((0 : Int32), (f33_8 Io Jo 2).2.1, Jo) = some (v, I1, J1) → OUT t v w I1 I2 (∃ kc, OPN kc ∧ PA t n b P S B E kc Ic Jc Ir Jr I1 J1 I2 J2) := fun q1 q2 => by
        rw [f225_is g1.2.1] at q1
        rw [f33_is] at q2
        dsimp only at q2
        cases q1
        cases q2
        exact Or.inl ⟨rfl, rfl, RF_of g1 (by decide)⟩
      by_cases c3 : Io 8 2 = 3
      · obtain ⟨m1, m2, m3⟩ := sgn_in g1 c3
        rw [m3, m2] at hr
        rcases m1 with m1 | m1 | m1 | m1
        · rw [if_neg (fun q => q.2 m1)] at hc1
          dsimp only at hc1
          rw [n00, cond_false] at hc1
          rw [m1, if_neg (by decide), n00, cond_false, f223_is, m2, m3, m1, if_neg (by decide)] at hr
          dsimp only at hr
          rw [n00, cond_false, f223_is, m2, m3, m1, if_neg (by decide)] at hr
          dsimp only at hr
          rw [n00, cond_false] at hr
          exact rbad2 (Option.some.inj hr) hc1
        · rw [if_pos ⟨c3, by rw [m1]; decide⟩] at hc1
          dsimp only at hc1
          rw [n10, cond_true, m1, show xcmp .ne (60 : Int32) 60 = false from rfl, cond_false] at hc1
          rw [m1, if_pos (by decide), n10, cond_true] at hr
          exact fin m1 (m3.trans m1) (Or.inl ⟨rfl, rfl⟩) hc1 hr
        · rw [if_pos ⟨c3, by rw [m1]; decide⟩] at hc1
          dsimp only at hc1
          rw [n10, cond_true, m1, show xcmp .ne (62 : Int32) 60 = true from rfl, cond_true, show xcmp .ne (62 : Int32) 62 = false from rfl, cond_false] at hc1
          rw [m1, if_neg (by decide), n00, cond_false, f223_is, m2, m3, m1, if_pos (by decide)] at hr
          dsimp only at hr
          rw [n10, cond_true] at hr
          exact fin m1 (m3.trans m1) (Or.inr (Or.inl ⟨rfl, rfl⟩)) hc1 hr
        · rw [if_pos ⟨c3, by rw [m1]; decide⟩] at hc1
          dsimp only at hc1
          rw [n10, cond_true, m1, show xcmp .ne (61 : Int32) 60 = true from rfl, cond_true, show xcmp .ne (61 : Int32) 62 = true from rfl, cond_true] at hc1
          rw [m1, if_neg (by decide), n00, cond_false, f223_is, m2, m3, m1, if_neg (by decide)] at hr
          dsimp only at hr
          rw [n00, cond_false, f223_is, m2, m3, m1, if_pos (by decide)] at hr
          dsimp only at hr
          rw [n10, cond_true] at hr
          exact fin m1 (m3.trans m1) (Or.inr (Or.inr ⟨rfl, rfl⟩)) hc1 hr
      · have n4 := sgn_no g1 c3
        rw [if_neg (fun q => c3 q.1)] at hc1
        dsimp only at hc1
        rw [n00, cond_false] at hc1
        rw [if_neg (fun q => n4 q.1), n00, cond_false, f223_is, if_neg (fun q => n4 q.1)] at hr
        dsimp only at hr
        rw [n00, cond_false, f223_is, if_neg (fun q => n4 q.1)] at hr
        dsimp only at hr
        rw [n00, cond_false] at hr
        exact rbad2 (Option.some.inj hr) hc1
  · rw [xc_eqn k20, cond_false] at hr
    rw [xc_ne (fun q => k20 (h20.mpr q)), cond_true, xc_ne (fun q => k29 (h29.mpr q)), cond_true] at hc
    unfold f59_60_10_j31 at hc
    rw [n00, cond_false, xc_eqn (fun q => k30 (h30.mpr q)), cond_false] at hc
    exact rbad (Option.some.inj hr) (Option.some.inj hc)
end RU3
