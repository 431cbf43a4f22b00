/-! THE PERSONS GO ON: folk 12, room 11 -/
section DY12
variable {N N' P W D s : Nat} {Ic Ir I1 I2 I : tI} {Jc Jr J1 J2 J : tJ} {u u' : Unit}
theorem FKp_12 {q0 : Nat} : FKp 12 q0 s W D P Ic Ir ↔ ∀ p, p < P → RCw W D (Ic 14 p) (Ir 186 (q0 + 14 * p)) ∧ (Ic 15 p = Ir 186 (q0 + 14 * p + 1) ∧ Ic 16 p = Ir 186 (q0 + 14 * p + 2)) ∧ (∃ m, 1 ≤ m ∧ m ≤ 8 ∧ Ic 17 p = Int32.ofNat m ∧ Ir 186 (q0 + 14 * p + 3) = Int32.ofNat m ∧ ∀ k, k < m → Ic 18 (8 * p + k) = Ir 186 (q0 + 14 * p + 6 + k)) ∧ STp s (Ic 16 p) (Ic 19 p) (Ir 186 (q0 + 14 * p + 4)) ∧ RCw W D (Ic 20 p) (Ir 186 (q0 + 14 * p + 5)) := Iff.rfl
theorem f48_11_is {r c : Nat} {z : Int32} (h0 : I 11 0 = Int32.ofNat W) (h1 : I 11 1 = Int32.ofNat D) (hW : W ≤ 6) (hD : D ≤ 5) (hr : r < D) (hc : c < W) : f48_11 I J (Int32.ofNat (10 * r + c)) z = ((match nxC W D r c z with
    | some q => Int32.ofNat (10 * q.1 + q.2)
    | none => -1), I, J) := by
  obtain ⟨e1, e2⟩ := d10_at (r := r) (c := c) (by omega) (by omega)
  unfold f48_11 nxC
  rw [e2, e1, h0, h1]
  by_cases z0 : z = 0
  · rw [xc_eq z0, cond_true, if_pos z0, show Int32.ofNat c + 1 = Int32.ofNat (c + 1) from oi_suc (by omega), oi_ge (by omega) (by omega)]
    by_cases q : c + 1 < W
    · rw [if_pos q, decide_eq_false (by omega), cond_false, oi_suc (by omega)]
      rfl
    · rw [if_neg q, decide_eq_true (by omega), cond_true]
  rw [xc_eqn z0, cond_false, if_neg z0]
  by_cases z1 : z = 1
  · rw [xc_eq z1, cond_true, if_pos z1, show Int32.ofNat r + 1 = Int32.ofNat (r + 1) from oi_suc (by omega), oi_ge (by omega) (by omega)]
    by_cases q : r + 1 < D
    · rw [if_pos q, decide_eq_false (by omega), cond_false, show Int32.ofNat (10 * r + c) + 10 = Int32.ofNat (10 * r + c + 10) from oi_add (b := 10)]
      dsimp only
      rw [show 10 * (r + 1) + c = 10 * r + c + 10 by omega]
    · rw [if_neg q, decide_eq_true (by omega), cond_true]
  rw [xc_eqn z1, cond_false, if_neg z1]
  by_cases z2 : z = 2
  · rw [xc_eq z2, cond_true, if_pos z2, tc_le, oi_int (by omega), show (0 : Int32).toInt = 0 from rfl]
    by_cases q : 0 < c
    · rw [if_pos q, decide_eq_false (by omega), cond_false]
      dsimp only
      rw [oi_minus (x := 1) (b := 1) rfl (by omega) (by omega), show 10 * r + (c - 1) = 10 * r + c - 1 by omega]
    · rw [if_neg q, decide_eq_true (by omega), cond_true]
  rw [xc_eqn z2, cond_false, if_neg z2]
  by_cases z3 : z = 3
  · rw [xc_eq z3, cond_true, if_pos z3, tc_le, oi_int (by omega), show (0 : Int32).toInt = 0 from rfl]
    by_cases q : 0 < r
    · rw [if_pos q, decide_eq_false (by omega), cond_false]
      dsimp only
      rw [oi_minus (x := 10) (b := 10) rfl (by omega) (by omega), show 10 * (r - 1) + c = 10 * r + c - 10 by omega]
    · rw [if_neg q, decide_eq_true (by omega), cond_true]
  · rw [xc_eqn z3, cond_false, if_neg z3]
theorem f14_12_run {x : Int32} (hP : P ≤ 5) (h0 : I 12 0 = Int32.ofNat P) : ∀ (k p : Nat) {Y : Nat × Int32 × Int32 × tI × tJ}, p ≤ P → (∀ i, i < p → ¬ (I 19 i = 1 ∧ I 20 i = x)) → f14_12_11_l17 N k I J x (Int32.ofNat p) = some Y → Y.2.2.2 = (I, J) ∧ ((Y.1 = 0 ∧ ∀ i, i < P → ¬ (I 19 i = 1 ∧ I 20 i = x)) ∨ (Y.1 = 1 ∧ ∃ i, i < P ∧ I 19 i = 1 ∧ I 20 i = x))
  | 0, _, _, _, _, h => by cases h
  | k + 1, p, Y, hp, hn, h => by
    simp only [f14_12_11_l17] at h
    rw [h0, oi_ge (by omega) (by omega)] at h
    by_cases hpm : P ≤ p
    · rw [decide_eq_true hpm, cond_true] at h
      cases h
      exact ⟨rfl, Or.inl ⟨rfl, fun i hi => hn i (by omega)⟩⟩
    · rw [decide_eq_false hpm, cond_false, oi_nat (by omega), oi_suc (by omega)] at h
      have go : ¬ (I 19 p = 1 ∧ I 20 p = x) → f14_12_11_l17 N k I J x (Int32.ofNat (p + 1)) = some Y → Y.2.2.2 = (I, J) ∧ ((Y.1 = 0 ∧ ∀ i, i < P → ¬ (I 19 i = 1 ∧ I 20 i = x)) ∨ (Y.1 = 1 ∧ ∃ i, i < P ∧ I 19 i = 1 ∧ I 20 i = x)) := fun hq q => f14_12_run hP h0 k (p + 1) (by omega) (fun i hi => by
        by_cases e : i = p
        · rw [e]; exact hq
        · exact hn i (by omega)) q
      by_cases a : I 19 p = 1
      · rw [xc_nen a, cond_false] at h
        by_cases b : I 20 p = x
        · rw [xc_nen b, cond_false] at h
          cases h
          exact ⟨rfl, Or.inr ⟨rfl, p, by omega, a, b⟩⟩
        · rw [xc_ne b, cond_true] at h
          exact go (fun q => b q.2) h
      · rw [xc_ne a, cond_true] at h
        exact go (fun q => a q.1) h
theorem f14_12_is {c : Nat} {q : Int32 × tI × tJ} (hP : P ≤ 5) (h0 : I 12 0 = Int32.ofNat P) (hc : c < 64) (h : f14_12_11 N I J (Int32.ofNat c) = some q) : (q = (1, I, J) ∧ wb (J 11 2) c = false ∧ ∀ i, i < P → ¬ (I 19 i = 1 ∧ I 20 i = Int32.ofNat c)) ∨ (q = (0, I, J) ∧ ¬ (wb (J 11 2) c = false ∧ ∀ i, i < P → ¬ (I 19 i = 1 ∧ I 20 i = Int32.ofNat c))) := by
  unfold f14_12_11 at h
  rw [wb_is hc] at h
  cases hw : wb (J 11 2) c with
  | true =>
    rw [hw, if_pos rfl, q10, cond_false] at h
    cases h
    exact Or.inr ⟨rfl, fun q => by cases q.1⟩
  | false =>
    rw [hw, if_neg (by decide), q00, cond_true] at h
    cases e : f14_12_11_l17 N N I J (Int32.ofNat c) 0 with
    | none => rw [e] at h; cases h
    | some Y =>
    obtain ⟨a, b⟩ := f14_12_run hP h0 N 0 (by omega) (fun i hi => absurd hi (by omega)) e
    obtain ⟨k1, y1, y2, Ia, Ja⟩ := Y
    rw [e] at h
    dsimp only at h a b
    cases a
    rcases b with ⟨rfl, b⟩ | ⟨rfl, i, b1, b2, b3⟩
    · cases h
      exact Or.inl ⟨rfl, rfl, b⟩
    · cases h
      exact Or.inr ⟨rfl, fun q => q.2 i b1 ⟨b2, b3⟩⟩
theorem f21_12_is {p : Nat} (hp : p < 5) (hs : s ≤ 2000) (h1 : I 12 1 = Int32.ofNat s) : f21_12 I J (Int32.ofNat p) = (if I 16 p ≠ -1 ∧ (I 16 p).toInt ≤ s + 1 then 1 else 0, I, J) := by
  unfold f21_12
  rw [oi_nat (by omega), h1, oi_suc (by omega), tc_gt, oi_int (by omega)]
  by_cases a : I 16 p = -1
  · rw [xc_eq a, cond_true, if_neg (fun q => q.1 a)]
  · rw [xc_eqn a, cond_false]
    by_cases b : ((s + 1 : Nat) : Int) < (I 16 p).toInt
    · rw [decide_eq_true b, cond_true, if_neg (by omega)]
    · rw [decide_eq_false b, cond_false, if_pos ⟨a, by omega⟩]
theorem f22_12_is {p m : Nat} (hp : p < 5) (hs : s ≤ 2000) (h1 : I 12 1 = Int32.ofNat s) (hm1 : 1 ≤ m) (hm8 : m ≤ 8) (h5 : I 17 p = Int32.ofNat m) : f22_12 I J (Int32.ofNat p) = (I 18 (8 * p + s % m), I, J) := by
  have hlt := Nat.mod_lt s (show 0 < m by omega)
  unfold f22_12
  rw [oi_nat (by omega), h5, h1, show xcmp .ge (Int32.ofNat m) 1 = decide (1 ≤ m) from oi_ge (q := 1) (by omega) (by omega), decide_eq_true hm1, cond_true, irem_nat (by omega) (by omega) (by omega), show Int32.ofNat p * 8 = Int32.ofNat (p * 8) from oi_mul (b := 8), oi_add, oi_nat (by omega), Nat.mul_comm p 8]
/-- who comes, or not -/
theorem f19_12_is {p r c : Nat} (hP : P ≤ 5) (hp : p < P) (hs : s ≤ 2000) (h0 : I 12 0 = Int32.ofNat P) (h1 : I 12 1 = Int32.ofNat s) (hr : r < 5) (hc : c < 6) (h2 : I 14 p = Int32.ofNat (10 * r + c)) (h : f19_12_11 N I J (Int32.ofNat p) = some (u, I1, J1)) : J1 = J ∧ ((¬ (I 15 p).toInt ≤ s + 1 ∧ I1 = I) ∨ ((I 15 p).toInt ≤ s + 1 ∧ (I 16 p ≠ -1 ∧ (I 16 p).toInt ≤ s + 1) ∧ I1 = tup I 19 p 2) ∨ ((I 15 p).toInt ≤ s + 1 ∧ ¬ (I 16 p ≠ -1 ∧ (I 16 p).toInt ≤ s + 1) ∧ (wb (J 11 2) (10 * r + c) = false ∧ ∀ i, i < P → ¬ (I 19 i = 1 ∧ I 20 i = Int32.ofNat (10 * r + c))) ∧ I1 = tup (tup I 19 p 1) 20 p (Int32.ofNat (10 * r + c))) ∨ ((I 15 p).toInt ≤ s + 1 ∧ ¬ (I 16 p ≠ -1 ∧ (I 16 p).toInt ≤ s + 1) ∧ ¬ (wb (J 11 2) (10 * r + c) = false ∧ ∀ i, i < P → ¬ (I 19 i = 1 ∧ I 20 i = Int32.ofNat (10 * r + c))) ∧ I1 = I)) := by
  unfold f19_12_11 at h
  rw [h1, oi_suc (by omega), tc_le, oi_int (by omega), f21_12_is (by omega) hs h1, oi_nat (by omega)] at h
  dsimp only at h
  by_cases a : (I 15 p).toInt ≤ s + 1
  · rw [decide_eq_true (by omega), cond_true] at h
    by_cases b : I 16 p ≠ -1 ∧ (I 16 p).toInt ≤ s + 1
    · rw [if_pos b, q10, cond_false] at h
      cases h
      exact ⟨rfl, Or.inr (Or.inl ⟨a, b, rfl⟩)⟩
    · rw [if_neg b, q00, cond_true, h2] at h
      replace h := obI h
      obtain ⟨v, Ia, Ja, e, h⟩ := h
      rcases f14_12_is hP h0 (by omega) e with ⟨q, g⟩ | ⟨q, g⟩
      · cases q
        rw [q10, cond_false] at h
        cases h
        exact ⟨rfl, Or.inr (Or.inr (Or.inl ⟨a, b, g, by rw [h2]⟩))⟩
      · cases q
        rw [q00, cond_true] at h
        cases h
        exact ⟨rfl, Or.inr (Or.inr (Or.inr ⟨a, b, g, rfl⟩))⟩
  · rw [decide_eq_false (by omega), cond_false] at h
    cases h
    exact ⟨rfl, Or.inl ⟨a, rfl⟩⟩
/-- who goes, leaves, stays -/
theorem f20_12_is {p r c m : Nat} (hP : P ≤ 5) (hp : p < P) (hs : s ≤ 2000) (hW : W ≤ 6) (hD : D ≤ 5) (g0 : I 11 0 = Int32.ofNat W) (g1 : I 11 1 = Int32.ofNat D) (h0 : I 12 0 = Int32.ofNat P) (h1 : I 12 1 = Int32.ofNat s) (hm1 : 1 ≤ m) (hm8 : m ≤ 8) (h5 : I 17 p = Int32.ofNat m) (hr : r < D) (hc : c < W) (h8 : I 20 p = Int32.ofNat (10 * r + c)) (h : f20_12_11 N I J (Int32.ofNat p) = some (u, I1, J1)) : J1 = J ∧ (((I 16 p ≠ -1 ∧ (I 16 p).toInt ≤ s + 1) ∧ I1 = tup I 19 p 2) ∨ (¬ (I 16 p ≠ -1 ∧ (I 16 p).toInt ≤ s + 1) ∧ ((nxC W D r c (I 18 (8 * p + s % m)) = none ∧ I1 = I) ∨ ∃ r' c', nxC W D r c (I 18 (8 * p + s % m)) = some (r', c') ∧ (((wb (J 11 2) (10 * r' + c') = false ∧ ∀ i, i < P → ¬ (I 19 i = 1 ∧ I 20 i = Int32.ofNat (10 * r' + c'))) ∧ I1 = tup I 20 p (Int32.ofNat (10 * r' + c'))) ∨ (¬ (wb (J 11 2) (10 * r' + c') = false ∧ ∀ i, i < P → ¬ (I 19 i = 1 ∧ I 20 i = Int32.ofNat (10 * r' + c'))) ∧ I1 = I))))) := by
  unfold f20_12_11 at h
  rw [f21_12_is (by omega) hs h1] at h
  dsimp only at h
  by_cases b : I 16 p ≠ -1 ∧ (I 16 p).toInt ≤ s + 1
  · rw [if_pos b, q10, cond_false, oi_nat (by omega)] at h
    cases h
    exact ⟨rfl, Or.inl ⟨b, rfl⟩⟩
  · rw [if_neg b, q00, cond_true, f22_12_is (by omega) hs h1 hm1 hm8 h5] at h
    dsimp only at h
    rw [oi_nat (by omega), h8, f48_11_is g0 g1 hW hD hr hc] at h
    dsimp only at h
    cases hn : nxC W D r c (I 18 (8 * p + s % m)) with
    | none =>
      rw [hn] at h
      dsimp only at h
      rw [show xcmp .eq (-1 : Int32) (-1) = true from rfl, cond_true] at h
      cases h
      exact ⟨rfl, Or.inr ⟨b, Or.inl ⟨rfl, rfl⟩⟩⟩
    | some q =>
      obtain ⟨r', c'⟩ := q
      have hin := nxC_in hr hc hn
      rw [hn] at h
      dsimp only at h
      rw [xc_eqn (oi_m1 (by omega)), cond_false] at h
      replace h := obI h
      obtain ⟨v, Ia, Ja, e, h⟩ := h
      rcases f14_12_is hP h0 (by omega) e with ⟨q, g⟩ | ⟨q, g⟩
      · cases q
        rw [q10, cond_false] at h
        cases h
        exact ⟨rfl, Or.inr ⟨b, Or.inr ⟨r', c', rfl, Or.inl ⟨g, rfl⟩⟩⟩⟩
      · cases q
        rw [q00, cond_true] at h
        cases h
        exact ⟨rfl, Or.inr ⟨b, Or.inr ⟨r', c', rfl, Or.inr ⟨g, rfl⟩⟩⟩⟩
def cOne_12 (N : Nat) (I : tI) (J : tJ) (p : Int32) : Option (Unit × tI × tJ) := bif xcmp .ne (I 19 p.toNatClampNeg) 0 then (bif xcmp .ne (I 19 p.toNatClampNeg) 1 then some ((), I, J) else f20_12_11 N I J p) else f19_12_11 N I J p
/-- one person, both ways -/
theorem pers_12 {p : Nat} (hQ : FQ 12 11 P W D s Ic Jc Ir) (hp : p < P) (hc : cOne_12 N Ic Jc (Int32.ofNat p) = some (u, I1, J1)) (hr : f283_185 N' Ir Jr (Int32.ofNat p) = some (u', I2, J2)) : J1 = Jc ∧ J2 = Jr ∧ (∀ o k, ¬ ((o = 19 ∨ o = 20) ∧ k = p) → I1 o k = Ic o k) ∧ (∀ o k, ¬ (o = 186 ∧ (k = 40 + 14 * p + 4 ∨ k = 40 + 14 * p + 5)) → I2 o k = Ir o k) ∧ FQ 12 11 P W D s I1 J1 I2 := by
  obtain ⟨⟨hP, hW, hD, hs⟩, ⟨g0, g1, g2, g3⟩, ⟨k0, k1, k2, k3⟩, hw, hF⟩ := id hQ
  obtain ⟨⟨r0, c0, hr0, hc0, x0, y0⟩, ⟨ec, el⟩, ⟨m, m1, m8, x5, y5, hst⟩, hS, ⟨r1, c1, hr1, hc1, x8, y8⟩⟩ := FKp_12.mp hF p hp
  have rr := f283_is hP hp hs hW hD k0 k1 k2 k3 hr0 hc0 y0 m1 m8 y5 hr1 hc1 y8 (STp_b hS) hr
  -- what is new of this person is enough
  have fin : ∀ {I1 I2 : tI}, (∀ o k, ¬ ((o = 19 ∨ o = 20) ∧ k = p) → I1 o k = Ic o k) → (∀ o k, ¬ (o = 186 ∧ (k = 40 + 14 * p + 4 ∨ k = 40 + 14 * p + 5)) → I2 o k = Ir o k) → STp (s + 1) (Ic 16 p) (I1 19 p) (I2 186 (40 + 14 * p + 4)) → RCw W D (I1 20 p) (I2 186 (40 + 14 * p + 5)) → FQ 12 11 P W D s I1 Jc I2 := fun f1 f2 a1 a2 => FQ_up hQ hp f1 f2 a1 a2 (by omega)
  have idI : ∀ o k, ¬ ((o = 19 ∨ o = 20) ∧ k = p) → Ic o k = Ic o k := fun _ _ _ => rfl
  have idR : ∀ o k, ¬ (o = 186 ∧ (k = 40 + 14 * p + 4 ∨ k = 40 + 14 * p + 5)) → Ir o k = Ir o k := fun _ _ _ => rfl
  have t7 : ∀ v : Int32, ∀ o k, ¬ ((o = 19 ∨ o = 20) ∧ k = p) → (tup Ic 19 p v) o k = Ic o k := fun v o k h => tup_ne (by omega)
  have t8 : ∀ v : Int32, ∀ o k, ¬ ((o = 19 ∨ o = 20) ∧ k = p) → (tup Ic 20 p v) o k = Ic o k := fun v o k h => tup_ne (by omega)
  have t78 : ∀ v w : Int32, ∀ o k, ¬ ((o = 19 ∨ o = 20) ∧ k = p) → (tup (tup Ic 19 p v) 20 p w) o k = Ic o k := fun v w o k h => by rw [tup_ne (by omega), tup_ne (by omega)]
  have q4 : ∀ v : Int32, ∀ o k, ¬ (o = 186 ∧ (k = 40 + 14 * p + 4 ∨ k = 40 + 14 * p + 5)) → (tup Ir 186 (40 + 14 * p + 4) v) o k = Ir o k := fun v o k h => tup_ne (by omega)
  have q5 : ∀ v : Int32, ∀ o k, ¬ (o = 186 ∧ (k = 40 + 14 * p + 4 ∨ k = 40 + 14 * p + 5)) → (tup Ir 186 (40 + 14 * p + 5) v) o k = Ir o k := fun v o k h => tup_ne (by omega)
  have q45 : ∀ v w : Int32, ∀ o k, ¬ (o = 186 ∧ (k = 40 + 14 * p + 4 ∨ k = 40 + 14 * p + 5)) → (tup (tup Ir 186 (40 + 14 * p + 4) v) 186 (40 + 14 * p + 5) w) o k = Ir o k := fun v w o k h => by rw [tup_ne (by omega), tup_ne (by omega)]
  have cl : RCw W D (Ic 20 p) (Ir 186 (40 + 14 * p + 5)) := ⟨r1, c1, hr1, hc1, x8, y8⟩
  -- who is in the way is so for both
  have fr : ∀ {r c : Nat}, r < D → c < W → ((wb (Jc 11 2) (10 * r + c) = false ∧ ∀ i, i < P → ¬ (Ic 19 i = 1 ∧ Ic 20 i = Int32.ofNat (10 * r + c))) ↔ (Ir 186 (10 + (6 * r + c)) ≠ 1 ∧ ∀ i, i < P → ¬ (Ir 186 (40 + 14 * i + 4) = 1 ∧ Ir 186 (40 + 14 * i + 5) = Int32.ofNat (6 * r + c)))) := fun {r c} hr hc => by
    have e1 : wb (Jc 11 2) (10 * r + c) = false ↔ Ir 186 (10 + (6 * r + c)) ≠ 1 := by
      rw [hw r c (by omega) (by omega)]
      cases wb (Jc 11 2) (10 * r + c) <;> decide
    have e2 : ∀ i, i < P → ((Ic 19 i = 1 ∧ Ic 20 i = Int32.ofNat (10 * r + c)) ↔ (Ir 186 (40 + 14 * i + 4) = 1 ∧ Ir 186 (40 + 14 * i + 5) = Int32.ofNat (6 * r + c))) := fun i hi => FKp_occ hF hi ⟨hW, hD⟩ hr hc
    rw [e1]
    exact ⟨fun q => ⟨q.1, fun i hi h => q.2 i hi ((e2 i hi).mpr h)⟩, fun q => ⟨q.1, fun i hi h => q.2 i hi ((e2 i hi).mp h)⟩⟩
  have ez : Ic 18 (8 * p + s % m) = Ir 186 (40 + 14 * p + 6 + s % m) := hst _ (Nat.mod_lt _ (by omega))
  unfold cOne_12 at hc
  rw [oi_nat (by omega)] at hc
  rw [← el, ← ec, ← ez] at rr
  rcases hS with ⟨hab, h012⟩ | ⟨ha, hb2, hl1, hl2⟩
  · rw [← hab] at rr
    rcases h012 with a0 | a1 | a2
    · -- outside
      rw [xc_nen a0, cond_false] at hc
      obtain ⟨rfl, cc⟩ := f19_12_is hP hp hs g2 g3 (by omega) (by omega) x0 hc
      obtain ⟨rfl, rr⟩ := rr
      rw [a0] at rr hab
      rcases rr with ⟨n, -⟩ | ⟨-, du, rfl⟩ | ⟨n, -⟩ | ⟨-, nd, rr⟩
      · exact absurd n (by decide)
      · rcases cc with ⟨-, rfl⟩ | ⟨-, -, rfl⟩ | ⟨-, nd, -⟩ | ⟨-, nd, -⟩
        · refine ⟨rfl, rfl, idI, q4 2, fin idI (q4 2) (Or.inr ⟨a0, tup_eq, du.1, by omega⟩) (by rw [tup_ne (by omega)]; exact cl)⟩
        · refine ⟨rfl, rfl, t7 2, q4 2, fin (t7 2) (q4 2) (Or.inl ⟨by rw [tup_eq, tup_eq], by rw [tup_eq]; exact Or.inr (Or.inr rfl)⟩) (by rw [tup_ne (by omega), tup_ne (by omega)]; exact cl)⟩
        · exact absurd du nd
        · exact absurd du nd
      · exact absurd n (by decide)
      · rcases cc with ⟨cl1, rfl⟩ | ⟨-, du, -⟩ | ⟨cl1, -, fr1, rfl⟩ | ⟨cl1, -, fr1, rfl⟩
        · rcases rr with ⟨-, rfl⟩ | ⟨n, -⟩ | ⟨n, -⟩
          · exact ⟨rfl, rfl, idI, idR, fin idI idR (Or.inl ⟨by rw [a0]; exact hab, Or.inl a0⟩) cl⟩
          · exact absurd n cl1
          · exact absurd n cl1
        · exact absurd du nd
        · rcases rr with ⟨n, -⟩ | ⟨-, -, rfl⟩ | ⟨-, n, -⟩
          · exact absurd cl1 n
          · refine ⟨rfl, rfl, t78 1 _, q45 1 _, fin (t78 1 _) (q45 1 _) (Or.inl ⟨by rw [tup_ne (by omega), tup_eq, tup_ne (by omega), tup_eq], by rw [tup_ne (by omega), tup_eq]; exact Or.inr (Or.inl rfl)⟩) ?_⟩
            rw [tup_eq, tup_eq]
            exact ⟨r0, c0, hr0, hc0, rfl, rfl⟩
          · exact absurd ((fr hr0 hc0).mp fr1) n
        · rcases rr with ⟨n, -⟩ | ⟨-, n, -⟩ | ⟨-, -, rfl⟩
          · exact absurd cl1 n
          · exact absurd ((fr hr0 hc0).mpr n) fr1
          · exact ⟨rfl, rfl, idI, idR, fin idI idR (Or.inl ⟨by rw [a0]; exact hab, Or.inl a0⟩) cl⟩
    · -- there
      rw [xc_ne (by rw [a1]; decide), cond_true, xc_nen a1, cond_false] at hc
      obtain ⟨rfl, cc⟩ := f20_12_is hP hp hs hW hD g0 g1 g2 g3 m1 m8 x5 hr1 hc1 x8 hc
      obtain ⟨rfl, rr⟩ := rr
      rw [a1] at rr hab
      rcases rr with ⟨n, -⟩ | ⟨-, du, rfl⟩ | ⟨-, nd, rr⟩ | ⟨n, -⟩
      · exact absurd n (by decide)
      · rcases cc with ⟨-, rfl⟩ | ⟨nd, -⟩
        · refine ⟨rfl, rfl, t7 2, q4 2, fin (t7 2) (q4 2) (Or.inl ⟨by rw [tup_eq, tup_eq], by rw [tup_eq]; exact Or.inr (Or.inr rfl)⟩) (by rw [tup_ne (by omega), tup_ne (by omega)]; exact cl)⟩
        · exact absurd du nd
      · have stay : STp (s + 1) (Ic 16 p) (Ic 19 p) (Ir 186 (40 + 14 * p + 4)) := Or.inl ⟨by rw [a1]; exact hab, Or.inr (Or.inl a1)⟩
        rcases cc with ⟨du, -⟩ | ⟨-, ⟨cn, rfl⟩ | ⟨r', c', cn, ⟨fr1, rfl⟩ | ⟨fr1, rfl⟩⟩⟩
        · exact absurd du nd
        · rcases rr with ⟨-, rfl⟩ | ⟨r2, c2, n, -⟩
          · exact ⟨rfl, rfl, idI, idR, fin idI idR stay cl⟩
          · rw [cn] at n
            cases n
        · have hin := nxC_in hr1 hc1 cn
          rcases rr with ⟨n, -⟩ | ⟨r2, c2, n, rr⟩
          · rw [cn] at n
            cases n
          · rw [cn] at n
            cases n
            rcases rr with ⟨-, rfl⟩ | ⟨n, -⟩
            · refine ⟨rfl, rfl, t8 _, q5 _, fin (t8 _) (q5 _) (by rw [tup_ne (by omega), tup_ne (by omega)]; exact stay) ?_⟩
              rw [tup_eq, tup_eq]
              exact ⟨r', c', hin.1, hin.2.1, rfl, rfl⟩
            · exact absurd ((fr hin.1 hin.2.1).mp fr1) n
        · have hin := nxC_in hr1 hc1 cn
          rcases rr with ⟨n, -⟩ | ⟨r2, c2, n, rr⟩
          · rw [cn] at n
            cases n
          · rw [cn] at n
            cases n
            rcases rr with ⟨n, -⟩ | ⟨-, rfl⟩
            · exact absurd ((fr hin.1 hin.2.1).mpr n) fr1
            · exact ⟨rfl, rfl, idI, idR, fin idI idR stay cl⟩
      · exact absurd n (by decide)
    · -- gone
      rw [xc_ne (by rw [a2]; decide), cond_true, xc_ne (by rw [a2]; decide), cond_true] at hc
      cases hc
      obtain ⟨rfl, rr⟩ := rr
      rw [a2] at rr
      rcases rr with ⟨-, rfl⟩ | ⟨n, -⟩ | ⟨n, -⟩ | ⟨n, -⟩
      · exact ⟨rfl, rfl, idI, idR, fin idI idR (Or.inl ⟨hab, Or.inr (Or.inr a2)⟩) cl⟩
      · exact absurd rfl n
      · exact absurd n (by decide)
      · exact absurd n (by decide)
  · -- told as gone by the reference alone
    rw [xc_nen ha, cond_false] at hc
    obtain ⟨rfl, cc⟩ := f19_12_is hP hp hs g2 g3 (by omega) (by omega) x0 hc
    obtain ⟨rfl, rr⟩ := rr
    rw [hb2] at rr
    rcases rr with ⟨-, rfl⟩ | ⟨n, -⟩ | ⟨n, -⟩ | ⟨n, -⟩
    · rcases cc with ⟨-, rfl⟩ | ⟨-, -, rfl⟩ | ⟨-, nd, -⟩ | ⟨-, nd, -⟩
      · exact ⟨rfl, rfl, idI, idR, fin idI idR (Or.inr ⟨ha, hb2, hl1, hl2⟩) cl⟩
      · exact ⟨rfl, rfl, t7 2, idR, fin (t7 2) idR (Or.inl ⟨by rw [tup_eq, hb2], by rw [tup_eq]; exact Or.inr (Or.inr rfl)⟩) (by rw [tup_ne (by omega)]; exact cl)⟩
      · exact absurd ⟨hl1, by omega⟩ nd
      · exact absurd ⟨hl1, by omega⟩ nd
    · exact absurd rfl n
    · exact absurd n (by decide)
    · exact absurd n (by decide)
theorem goOn_run_12 : ∀ (k k' p : Nat) {Ic Ir : tI} {Jc Jr : tJ} {Y Y' : Int32 × tI × tJ}, FQ 12 11 P W D s Ic Jc Ir → p ≤ P → f18_12_11_l2 N k Ic Jc (Int32.ofNat p) = some Y → f284_185_l2 N' k' Ir Jr (Int32.ofNat p) = some Y' → FQ 12 11 P W D s Y.2.1 Y.2.2 Y'.2.1 ∧ Y.2.2 = Jc ∧ Y'.2.2 = Jr ∧ (∀ o i, ¬ ((o = 19 ∨ o = 20) ∧ i < 5) → Y.2.1 o i = Ic o i) ∧ (∀ o i, ¬ (o = 186 ∧ ∃ p, p < 5 ∧ (i = 40 + 14 * p + 4 ∨ i = 40 + 14 * p + 5)) → Y'.2.1 o i = Ir o i)
  | 0, _, _, _, _, _, _, _, _, _, _, h, _ => by cases h
  | _ + 1, 0, _, _, _, _, _, _, _, _, _, _, h => by cases h
  | k + 1, k' + 1, p, Ic, Ir, Jc, Jr, Y, Y', hQ, hp, hc, hr => by
    obtain ⟨⟨hP, hW, hD, hs⟩, ⟨g0, g1, g2, g3⟩, ⟨k0, k1, k2, k3⟩, -, -⟩ := id hQ
    simp only [f18_12_11_l2] at hc
    simp only [f284_185_l2] at hr
    rw [g2, oi_ge (by omega) (by omega)] at hc
    rw [k2, oi_ge (by omega) (by omega)] at hr
    by_cases hpe : P ≤ p
    · rw [decide_eq_true hpe, cond_true] at hc hr
      cases hc
      cases hr
      exact ⟨hQ, rfl, rfl, fun _ _ _ => rfl, fun _ _ _ => rfl⟩
    · rw [decide_eq_false hpe, cond_false, oi_suc (by omega)] at hc hr
      replace hr := obU hr
      obtain ⟨u2, I2, J2, e2, hr2⟩ := hr
      have hone : ∃ I1 J1, cOne_12 N Ic Jc (Int32.ofNat p) = some ((), I1, J1) ∧ f18_12_11_l2 N k I1 J1 (Int32.ofNat (p + 1)) = some Y := by
        unfold cOne_12
        rcases bsp hc with ⟨c1, hc⟩ | ⟨c1, hc⟩
        · rw [c1, cond_true]
          rcases bsp hc with ⟨c2, hc⟩ | ⟨c2, hc⟩
          · rw [c2, cond_true]
            exact ⟨Ic, Jc, rfl, hc⟩
          · rw [c2, cond_false]
            replace hc := obU hc
            obtain ⟨u1, I1, J1, e1, hc⟩ := hc
            exact ⟨I1, J1, e1, hc⟩
        · rw [c1, cond_false]
          replace hc := obU hc
          obtain ⟨u1, I1, J1, e1, hc⟩ := hc
          exact ⟨I1, J1, e1, hc⟩
      obtain ⟨I1, J1, e1, hc2⟩ := hone
      obtain ⟨rfl, rfl, f1, f2, hQ1⟩ := pers_12 hQ (by omega) e1 e2
      obtain ⟨a1, a2, a3, a4, a5⟩ := goOn_run_12 k k' (p + 1) hQ1 (by omega) hc2 hr2
      exact ⟨a1, a2, a3, fun o i hn => by rw [a4 o i hn, f1 o i (by omega)], fun o i hn => by rw [a5 o i hn, f2 o i (fun q => hn ⟨q.1, p, by omega, q.2⟩)]⟩
/-- a second goes by -/
theorem goOn_12 (hR : FR 12 11 P W D s Ic Jc Ir) (hs1 : s + 1 ≤ 2000) (hc : f18_12_11 N Ic Jc = some (u, I1, J1)) (hr : f284_185 N' Ir Jr = some (u', I2, J2)) : FR 12 11 P W D (s + 1) I1 J1 I2 ∧ J1 = Jc ∧ J2 = Jr ∧ (∀ o i, ¬ ((o = 19 ∨ o = 20) ∧ i < 5) → ¬ (o = 12 ∧ i = 1) → I1 o i = Ic o i) ∧ (∀ o i, ¬ (o = 186 ∧ (i = 5 ∨ ∃ p, p < 5 ∧ (i = 40 + 14 * p + 4 ∨ i = 40 + 14 * p + 5))) → I2 o i = Ir o i) := by
  unfold f18_12_11 at hc
  unfold f284_185 at hr
  cases e1 : f18_12_11_l2 N N Ic Jc 0 with
  | none => rw [e1] at hc; cases hc
  | some Y =>
  cases e2 : f284_185_l2 N' N' Ir Jr 0 with
  | none => rw [e2] at hr; cases hr
  | some Y' =>
  obtain ⟨hQ1, a1, a2, a3, a4⟩ := goOn_run_12 N N' 0 (FQ_of hR) (by omega) e1 e2
  obtain ⟨y1, I3, J3⟩ := Y
  obtain ⟨y2, I4, J4⟩ := Y'
  rw [e1] at hc
  rw [e2] at hr
  dsimp only at hc hr hQ1 a1 a2 a3 a4
  obtain ⟨⟨hP, hW, hD, hs⟩, ⟨g0, g1, g2, g3⟩, ⟨k0, k1, k2, k3⟩, hw, hF⟩ := hQ1
  rw [g3, oi_suc (by omega)] at hc
  rw [k3, oi_suc (by omega)] at hr
  cases hc
  cases hr
  refine ⟨⟨⟨hP, hW, hD, by omega⟩, ⟨?_, ?_, ?_, tup_eq⟩, ⟨?_, ?_, ?_, tup_eq⟩, fun r c hr' hc' => ?_, ?_⟩, a1, a2, fun o i h1 h2 => ?_, fun o i h1 => ?_⟩
  · rw [tup_ne (by omega)]; exact g0
  · rw [tup_ne (by omega)]; exact g1
  · rw [tup_ne (by omega)]; exact g2
  · rw [tup_ne (by omega)]; exact k0
  · rw [tup_ne (by omega)]; exact k1
  · rw [tup_ne (by omega)]; exact k2
  · rw [tup_ne (by omega)]; exact hw r c hr' hc'
  · exact FKp_cg hF (fun o k q1 q2 => tup_ne (by omega)) (fun k q1 => tup_ne (by omega))
  · rw [tup_ne h2, a3 o i h1]
  · rw [tup_ne (by omega), a4 o i (fun q => h1 ⟨q.1, Or.inr q.2⟩)]
end DY12
