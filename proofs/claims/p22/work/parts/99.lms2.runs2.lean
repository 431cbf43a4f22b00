/-! RUNS READ: what an act is told with -/
def adI (I : tI) (E : Nat) (a b c : Int32) : tI := tup (tup (tup (tup (tup I 62 E a) 63 E b) 64 E c) 65 E (-1)) 61 2 (Int32.ofNat (E + 1))
def PA (t : Nat → Int32) (n : Nat) (b : Int) (P S B E : Nat) (kc : Int32) (Ic : tI) (Jc : tJ) (Ir : tI) (Jr : tJ) (I1 : tI) (J1 : tJ) (I2 : tI) (J2 : tJ) : Prop := R0 t n b I1 J1 I2 ∧ gJ Jc J1 ∧ J2 = Jr ∧ (∃ oc tc, (I1 62 E = kc ∧ I1 63 E = oc ∧ I1 64 E = tc ∧ I1 65 E = -1 ∧ I1 61 2 = Int32.ofNat (E + 1)) ∧ RRw P S B kc oc tc (I2 186 (2732 + 6 * E)) (I2 186 (2732 + 6 * E + 1)) (I2 186 (2732 + 6 * E + 2)) (I2 186 (2732 + 6 * E + 5))) ∧ (∀ o k, o ≠ 8 → ¬ (o = 61 ∧ k = 2) → ¬ (62 ≤ o ∧ o ≤ 65 ∧ k = E) → I1 o k = Ic o k) ∧ ∀ o k, ¬ (o = 185 ∧ 12 ≤ k ∧ k ≤ 15) → ¬ (o = 186 ∧ 2732 + 6 * E ≤ k ∧ k < 2738 + 6 * E) → I2 o k = Ir o k
section RU2
variable {t : Nat → Int32} {n N N' P S B W D E : Nat} {Ic Ir Ic' Ir' I1 I2 Ia Ib I : tI} {Jc Jr J1 J2 J Ja Jb : tJ} {v w : Int32} {u u' : Unit} {b : Int}
theorem add_is {x y z : Int32} (hE : I 61 2 = Int32.ofNat E) (h6 : E < 60) : f73_61 I J x y z = ((), adI I E x y z, J) := by
  unfold f73_61 adI
  rw [hE, show xcmp .ge (Int32.ofNat E) 60 = decide (60 ≤ E) from oi_ge (q := 60) (by omega) (by omega), decide_eq_false (by omega), cond_false, oi_nat (by omega)]
  rw [oi_suc (by omega)]
theorem adI_o {x y z : Int32} {o k : Nat} (h : ¬ (o = 61 ∧ k = 2)) (h2 : ¬ (62 ≤ o ∧ o ≤ 65 ∧ k = E)) : adI I E x y z o k = I o k := by
  unfold adI
  rw [tup_ne h, tup_ne (by omega), tup_ne (by omega), tup_ne (by omega), tup_ne (by omega)]
theorem adI_v {x y z : Int32} : adI I E x y z 62 E = x ∧ adI I E x y z 63 E = y ∧ adI I E x y z 64 E = z ∧ adI I E x y z 65 E = -1 ∧ adI I E x y z 61 2 = Int32.ofNat (E + 1) := by
  unfold adI
  refine ⟨?_, ?_, ?_, ?_, tup_eq⟩
  · rw [tup_ne (by omega), tup_ne (by omega), tup_ne (by omega), tup_ne (by omega), tup_eq]
  · rw [tup_ne (by omega), tup_ne (by omega), tup_ne (by omega), tup_eq]
  · rw [tup_ne (by omega), tup_ne (by omega), tup_eq]
  · rw [tup_ne (by omega), tup_eq]
theorem adv2 (h : R0 t n b Ic Jc Ir) (hc : f25_8 N Ic' Jc = some (u, I1, J1)) (hr : f222_185 N' Ir' Jr = some (u', I2, J2)) (c : ∀ o k, o ≤ 9 → ¬ (o = 8 ∧ k = 8) → Ic' o k = Ic o k) (r : ∀ o k, o = 185 ∧ 10 ≤ k ∧ k ≤ 18 ∨ o = 192 ∨ (o = 186 ∧ k < 2480) → Ir' o k = Ir o k) : AD t n b Ic' Jc Ir' Jr I1 J1 I2 J2 :=
  R0_adv (R0_cg h (fun k hk => c 8 k (by omega) (by omega)) (fun o k ho => c o k (by omega) (by omega)) rfl (fun k q1 q2 => r 185 k (Or.inl ⟨rfl, q1, q2⟩)) (fun o k ho => r o k (Or.inr ho))) hc hr
theorem pk {k x : Nat} {y : Int32} (hk : k < 100000) (hy : y = Int32.ofNat x) (hx : x < 10) : Int32.ofNat k + y = Int32.ofNat (k + x) := by
  rw [hy, oi_add]
/-- a number, then the end of an act -/
theorem cnt_a {a0 a1 : Int32} {m : Nat} {to : Int32} (hto : to.toNatClampNeg = 2732 + 6 * E + 1) (ha1 : a1.toInt = m) (hm : m ≤ 99) (hk : (a0 = 1 ∧ m ≤ 20 ∧ Ir 186 (2732 + 6 * E) = 22) ∨ (a0 = 5 ∧ Ir 186 (2732 + 6 * E) = 26)) (hE : Ic 61 2 = Int32.ofNat E) (h6 : E < 60) (h : R0 t n b Ic Jc Ir) (hc : f57_60 N Ic Jc a0 a1 = some (v, I1, J1)) (hr : f229_185 N' Ir Jr to 1 a1 = some (w, I2, J2)) : OUT t v w I1 I2 (PA t n b P S B E a0 Ic Jc Ir Jr I1 J1 I2 J2) := by
  unfold f57_60 at hc
  obtain ⟨⟨v1, Ia, Ja⟩, q1⟩ := exq (f37_8 Ic Jc 1 a1)
  rw [q1] at hc
  dsimp only at hc
  rcases num_rel h q1 hr with ⟨rfl, rfl, hF⟩ | ⟨rfl, rfl, rfl, rfl, k2, lo, hi, hr⟩
  · rw [n00, cond_false] at hc
    cases hc
    exact Or.inl ⟨rfl, rfl, hF⟩
  · rw [n10, cond_true, add_is hE h6] at hc
    dsimp only at hc
    replace hc := obU hc
    obtain ⟨_, Ib, Jb, q2, hc⟩ := hc
    cases hc
    rw [hto] at hr
    have z1 : (1 : Int32).toInt = 1 := rfl
    obtain ⟨x, hx, ex⟩ := nat_i (a := Ia 8 7) (by omega)
    rw [ex, oi_int hx] at lo hi
    obtain ⟨r1, r2, r3, r4, r5⟩ := adv2 h q2 hr (fun o k q z => adI_o (by omega) (by omega)) (fun o k q => tup_ne (by omega))
    obtain ⟨y1, y2, y3, y4, y5⟩ := adI_v (I := Ia) (E := E) (x := a0) (y := Ia 8 7) (z := 0)
    refine Or.inr ⟨rfl, rfl, r1, r3, r5, ⟨Ia 8 7, 0, ⟨by rw [r2 _ _ (by omega)]; exact y1, by rw [r2 _ _ (by omega)]; exact y2, by rw [r2 _ _ (by omega)]; exact y3, by rw [r2 _ _ (by omega)]; exact y4, by rw [r2 _ _ (by omega)]; exact y5⟩, ?_⟩, fun o k q3 q4 q5 => by rw [r2 _ _ (by omega)]; exact adI_o q4 q5, fun o k q3 q4 => by rw [r4 _ _ (by omega)]; exact tup_ne (by omega)⟩
    rw [r4 _ _ (by omega), r4 _ _ (by omega), r4 _ _ (by omega), r4 _ _ (by omega), tup_ne (by omega), tup_eq, ex]
    unfold RRw
    rcases hk with ⟨rfl, hm2, e⟩ | ⟨rfl, e⟩
    · exact Or.inr (Or.inl ⟨rfl, e, x, by omega, by omega, rfl, rfl⟩)
    · exact Or.inr (Or.inr (Or.inr (Or.inr (Or.inr (Or.inl ⟨rfl, e, x, by omega, by omega, rfl, rfl⟩)))))
/-- a buyer and how many -/
theorem buy_a (hB : B ≤ 4) (c6 : Ic 10 6 = Int32.ofNat B) (r4 : Ir 186 4 = Int32.ofNat B) (hn : ∀ x, x < B → RN (Jc 31 x) (Jr 187 (11 + x))) (h0 : Ir 186 (2732 + 6 * E) = 21) (hE : Ic 61 2 = Int32.ofNat E) (h6 : E < 60) (h : R0 t n b Ic Jc Ir) (hc : f56_60_10 N Ic Jc = some (v, I1, J1)) (hr : f248_185 N' Ir Jr 21 (Int32.ofNat (2732 + 6 * E)) = some (w, I2, J2)) : OUT t v w I1 I2 (PA t n b P S B E 0 Ic Jc Ir Jr I1 J1 I2 J2) := by
  have p1 : Int32.ofNat (2732 + 6 * E) + 1 = Int32.ofNat (2732 + 6 * E + 1) := pk (x := 1) (by omega) rfl (by omega)
  have p2 : Int32.ofNat (2732 + 6 * E) + 2 = Int32.ofNat (2732 + 6 * E + 2) := pk (x := 2) (by omega) rfl (by omega)
  unfold f56_60_10 at hc
  unfold f248_185 at hr
  rw [show xcmp .eq (21 : Int32) 21 = true from rfl, cond_true, p1, p2] at hr
  replace hc := obI hc
  obtain ⟨v1, Ia, Ja, q1, hc⟩ := hc
  replace hr := obI hr
  obtain ⟨w1, Ib, Jb, q2, hr⟩ := hr
  unfold f246_185 at q2
  replace q2 := obI q2
  obtain ⟨w2, Id, Jd, q3, q2⟩ := q2
  cases q2
  rw [c6] at q1
  rw [r4] at q3
  rcases old_rel_31 (to := 2732 + 6 * E + 1) (by omega) h hB hn q1 q3 with ⟨rfl, rfl, hF⟩ | ⟨rfl, rfl, x, hx, rfl, rfl, q3⟩
  · rw [n00, cond_false] at hc
    rw [q00, cond_true] at hr
    cases hc
    cases hr
    exact Or.inl ⟨rfl, rfl, hF⟩
  · rw [n10, cond_true] at hc
    rw [q10, cond_false] at hr
    replace hc := obU hc
    obtain ⟨_, Ie, Je, q4, hc⟩ := hc
    obtain ⟨s1, s2, s3, s4, s5⟩ := adv2 h q4 q3 (fun o k q z => tup_ne (by omega)) (fun o k q => tup_ne (by omega))
    obtain ⟨⟨v5, If, Jf⟩, q5⟩ := exq (f37_8 Ie Je 1 20)
    rw [q5] at hc
    dsimp only at hc
    replace hr := obI hr
    obtain ⟨w6, Ig, Jg, q6, hr⟩ := hr
    have z1 : (1 : Int32).toInt = 1 := rfl
    have z20 : (20 : Int32).toInt = 20 := rfl
    rcases num_rel s1 q5 q6 with ⟨rfl, rfl, hF⟩ | ⟨rfl, rfl, rfl, rfl, k2, lo, hi, q6⟩
    · rw [n00, cond_false] at hc
      rw [q00, cond_true] at hr
      cases hc
      cases hr
      exact Or.inl ⟨rfl, rfl, hF⟩
    · rw [n10, cond_true, add_is (E := E) (by rw [s2 _ _ (by omega), tup_ne (by omega)]; exact hE) h6, tup_eq] at hc
      rw [q10, cond_false] at hr
      dsimp only at hc
      replace hc := obU hc
      obtain ⟨_, Ih, Jh, q7, hc⟩ := hc
      cases hc
      cases hr
      rw [oi_nat (p := 2732 + 6 * E + 2) (by omega)] at q6
      obtain ⟨y, hy, ey⟩ := nat_i (a := If 8 7) (by omega)
      rw [ey, oi_int hy] at lo hi
      obtain ⟨r1, r2, r3, r4', r5⟩ := adv2 s1 q7 q6 (fun o k q z => adI_o (by omega) (by omega)) (fun o k q => tup_ne (by omega))
      obtain ⟨y1, y2, y3, y4, y5⟩ := adI_v (I := If) (E := E) (x := 0) (y := Int32.ofNat x) (z := If 8 7)
      refine Or.inr ⟨rfl, rfl, r1, fun o k q => (r3 o k q).trans (s3 o k q), r5.trans s5, ⟨Int32.ofNat x, If 8 7, ⟨by rw [r2 _ _ (by omega)]; exact y1, by rw [r2 _ _ (by omega)]; exact y2, by rw [r2 _ _ (by omega)]; exact y3, by rw [r2 _ _ (by omega)]; exact y4, by rw [r2 _ _ (by omega)]; exact y5⟩, ?_⟩, fun o k q3 q4 q5 => by rw [r2 _ _ (by omega), adI_o q4 q5, s2 _ _ (by omega)]; exact tup_ne (by omega), fun o k q3 q4 => by rw [r4' _ _ (by omega), tup_ne (by omega), s4 _ _ (by omega)]; exact tup_ne (by omega)⟩
      rw [r4' _ _ (by omega), r4' _ _ (by omega), r4' _ _ (by omega), r4' _ _ (by omega), tup_ne (by omega), tup_ne (by omega), tup_eq, tup_ne (by omega), s4 _ _ (by omega), s4 _ _ (by omega), tup_ne (by omega), tup_eq, ey]
      exact Or.inl ⟨rfl, h0, ⟨x, hx, rfl, rfl⟩, y, by omega, by omega, rfl, rfl⟩
/-- one buyer and another -/
theorem give_a (hB : B ≤ 4) (c6 : Ic 10 6 = Int32.ofNat B) (r4 : Ir 186 4 = Int32.ofNat B) (hn : ∀ x, x < B → RN (Jc 31 x) (Jr 187 (11 + x))) (h0 : Ir 186 (2732 + 6 * E) = 23) (hE : Ic 61 2 = Int32.ofNat E) (h6 : E < 60) (h : R0 t n b Ic Jc Ir) (hc : f58_60_10 N Ic Jc = some (v, I1, J1)) (hr : f248_185 N' Ir Jr 23 (Int32.ofNat (2732 + 6 * E)) = some (w, I2, J2)) : OUT t v w I1 I2 (PA t n b P S B E 2 Ic Jc Ir Jr I1 J1 I2 J2) := by
  have p1 : Int32.ofNat (2732 + 6 * E) + 1 = Int32.ofNat (2732 + 6 * E + 1) := pk (x := 1) (by omega) rfl (by omega)
  have p2 : Int32.ofNat (2732 + 6 * E) + 2 = Int32.ofNat (2732 + 6 * E + 2) := pk (x := 2) (by omega) rfl (by omega)
  unfold f58_60_10 at hc
  unfold f248_185 at hr
  rw [show xcmp .eq (23 : Int32) 21 = false from rfl, cond_false, show xcmp .eq (23 : Int32) 22 = false from rfl, cond_false, show xcmp .eq (23 : Int32) 23 = true from rfl, cond_true, p1, p2] at hr
  replace hc := obI hc
  obtain ⟨v1, Ia, Ja, q1, hc⟩ := hc
  replace hr := obI hr
  obtain ⟨w1, Ib, Jb, q2, hr⟩ := hr
  unfold f246_185 at q2
  replace q2 := obI q2
  obtain ⟨w2, Id, Jd, q3, q2⟩ := q2
  cases q2
  rw [c6] at q1
  rw [r4] at q3
  rcases old_rel_31 (to := 2732 + 6 * E + 1) (by omega) h hB hn q1 q3 with ⟨rfl, rfl, hF⟩ | ⟨rfl, rfl, x, hx, rfl, rfl, q3⟩
  · rw [n00, cond_false] at hc
    rw [q00, cond_true] at hr
    cases hc
    cases hr
    exact Or.inl ⟨rfl, rfl, hF⟩
  · rw [n10, cond_true] at hc
    rw [q10, cond_false] at hr
    replace hc := obU hc
    obtain ⟨_, Ie, Je, q4, hc⟩ := hc
    obtain ⟨s1, s2, s3, s4, s5⟩ := adv2 h q4 q3 (fun o k q z => tup_ne (by omega)) (fun o k q => tup_ne (by omega))
    replace hc := obI hc
    obtain ⟨v5, If, Jf, q5, hc⟩ := hc
    replace hr := obI hr
    obtain ⟨w6, Ig, Jg, q6, hr⟩ := hr
    unfold f246_185 at q6
    replace q6 := obI q6
    obtain ⟨w7, Ii, Ji, q8, q6⟩ := q6
    cases q6
    rw [s2 _ _ (by omega), tup_ne (by omega), c6] at q5
    rw [s4 _ _ (by omega), tup_ne (by omega), r4] at q8
    rcases old_rel_31 (to := 2732 + 6 * E + 2) (by omega) s1 hB (fun y hy => by rw [s3 _ _ (by omega), s5]; exact hn y hy) q5 q8 with ⟨rfl, rfl, hF⟩ | ⟨rfl, rfl, y, hy, rfl, rfl, q8⟩
    · rw [n00, cond_false] at hc
      rw [q00, cond_true] at hr
      cases hc
      cases hr
      exact Or.inl ⟨rfl, rfl, hF⟩
    · rw [n10, cond_true, add_is (E := E) (by rw [tup_ne (by omega), s2 _ _ (by omega), tup_ne (by omega)]; exact hE) h6, tup_eq, tup_eq] at hc
      rw [q10, cond_false] at hr
      dsimp only at hc
      replace hc := obU hc
      obtain ⟨_, Ih, Jh, q7, hc⟩ := hc
      cases hc
      cases hr
      obtain ⟨r1, r2, r3, r4', r5⟩ := adv2 s1 q7 q8 (fun o k q z => by rw [adI_o (by omega) (by omega)]; exact tup_ne (by omega)) (fun o k q => tup_ne (by omega))
      obtain ⟨y1, y2, y3, y4, y5⟩ := adI_v (I := tup Ie 8 8 (Int32.ofNat y)) (E := E) (x := 2) (y := Int32.ofNat x) (z := Int32.ofNat y)
      refine Or.inr ⟨rfl, rfl, r1, fun o k q => (r3 o k q).trans (s3 o k q), r5.trans s5, ⟨Int32.ofNat x, Int32.ofNat y, ⟨by rw [r2 _ _ (by omega)]; exact y1, by rw [r2 _ _ (by omega)]; exact y2, by rw [r2 _ _ (by omega)]; exact y3, by rw [r2 _ _ (by omega)]; exact y4, by rw [r2 _ _ (by omega)]; exact y5⟩, ?_⟩, fun o k q3 q4 q5 => by rw [r2 _ _ (by omega), adI_o q4 q5, tup_ne (by omega), s2 _ _ (by omega)]; exact tup_ne (by omega), fun o k q3 q4 => by rw [r4' _ _ (by omega), tup_ne (by omega), s4 _ _ (by omega)]; exact tup_ne (by omega)⟩
      rw [r4' _ _ (by omega), r4' _ _ (by omega), r4' _ _ (by omega), r4' _ _ (by omega), tup_ne (by omega), tup_ne (by omega), tup_eq, tup_ne (by omega), s4 _ _ (by omega), s4 _ _ (by omega), tup_ne (by omega), tup_eq]
      exact Or.inr (Or.inr (Or.inl ⟨rfl, h0, ⟨x, hx, rfl, rfl⟩, y, hy, rfl, rfl⟩))
theorem sgn_in (h : R0 t n b Ic Jc Ir) (h3 : Ic 8 2 = 3) : (Ic 8 7 = 59 ∨ Ic 8 7 = 60 ∨ Ic 8 7 = 62 ∨ Ic 8 7 = 61) ∧ Ir 185 12 = 4 ∧ Ir 185 15 = Ic 8 7 := by
  obtain ⟨s0, e0, -, -, -, -, -, -, hk⟩ := RT_cases h.1
  have rr : Ir 185 12 = 4 ∧ Ir 185 15 = Ic 8 7 := by
    rcases hk with ⟨a, -⟩ | ⟨a, -⟩ | ⟨a, -⟩ | ⟨a, b', c, d⟩ | ⟨a, -⟩
    · rw [h3] at a; exact absurd a (by decide)
    · rw [h3] at a; exact absurd a (by decide)
    · rw [h3] at a; exact absurd a (by decide)
    · exact ⟨b', d.symm⟩
    · rw [h3] at a; exact absurd a (by decide)
  obtain ⟨-, -, -, -, s, -, -, -, hC, -⟩ := h.1
  refine ⟨?_, rr⟩
  unfold tokC at hC
  rcases hC with ⟨-, a, -⟩ | ⟨-, a, -⟩ | ⟨-, a, -⟩ | ⟨-, a, -, -, c⟩
  · rw [h3] at a; exact absurd a (by decide)
  · rw [h3] at a; exact absurd a (by decide)
  · rw [h3] at a
    split at a <;> exact absurd a (by decide)
  · rw [h3] at a
    rw [c]
    split at a
    · assumption
    · exact absurd a (by decide)
end RU2
