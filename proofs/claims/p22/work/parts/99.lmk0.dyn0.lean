/-! PERSONS AND CELLS: numbers, the reference's looks -/
theorem d10 : (List.range 60).all (fun n => decide (Int32.ofNat n / 10 = Int32.ofNat (n / 10)) && decide (Int32.ofNat n - Int32.ofNat n / 10 * 10 = Int32.ofNat (n % 10))) = true := by decide +kernel
theorem d6 : (List.range 30).all (fun n => decide (Int32.ofNat n / 6 = Int32.ofNat (n / 6)) && decide (Int32.ofNat n - Int32.ofNat n / 6 * 6 = Int32.ofNat (n % 6))) = true := by decide +kernel
theorem d10_at {r c : Nat} (hr : r < 5) (hc : c < 6) : Int32.ofNat (10 * r + c) / 10 = Int32.ofNat r ∧ Int32.ofNat (10 * r + c) - Int32.ofNat (10 * r + c) / 10 * 10 = Int32.ofNat c := by
  have h := List.all_eq_true.mp d10 (10 * r + c) (List.mem_range.mpr (by omega))
  simp only [Bool.and_eq_true, decide_eq_true_eq] at h
  rw [show (10 * r + c) / 10 = r by omega, show (10 * r + c) % 10 = c by omega] at h
  exact h
theorem d6_at {r c : Nat} (hr : r < 5) (hc : c < 6) : Int32.ofNat (6 * r + c) / 6 = Int32.ofNat r ∧ Int32.ofNat (6 * r + c) - Int32.ofNat (6 * r + c) / 6 * 6 = Int32.ofNat c := by
  have h := List.all_eq_true.mp d6 (6 * r + c) (List.mem_range.mpr (by omega))
  simp only [Bool.and_eq_true, decide_eq_true_eq] at h
  rw [show (6 * r + c) / 6 = r by omega, show (6 * r + c) % 6 = c by omega] at h
  exact h
theorem irem_nat {s m : Nat} (hs : s < 2147483648) (hm : 0 < m) (hm2 : m < 2147483648) : Int32.ofNat s - Int32.ofNat s / Int32.ofNat m * Int32.ofNat m = Int32.ofNat (s % m) := by
  have h4 := Nat.mod_lt s hm
  apply i32_eq
  rw [ti_rem (by rw [oi_int hm2]; omega), oi_int hs, oi_int hm2, oi_int (by omega), Int.tmod_eq_emod_of_nonneg (by omega)]
  rfl
theorem oi_z {p : Nat} : Int32.ofNat p + 0 = Int32.ofNat p := oi_add (b := 0)
theorem oi_pred {p : Nat} (h : 0 < p) (h2 : p < 2147483648) : Int32.ofNat p + (-1) = Int32.ofNat (p - 1) := by
  have e1 : (-1 : Int32).toInt = -1 := rfl
  apply i32_eq
  rw [ti_add (by rw [oi_int h2, e1]; omega) (by rw [oi_int h2, e1]; omega), oi_int h2, e1, oi_int (by omega)]
  omega
theorem oi_minus {a b : Nat} {x : Int32} (hx : x = Int32.ofNat b) (h : b ≤ a) (ha : a < 2147483648) : Int32.ofNat a - x = Int32.ofNat (a - b) := by
  subst hx
  apply i32_eq
  rw [ti_sub (by rw [oi_int ha, oi_int (by omega)]; omega) (by rw [oi_int ha, oi_int (by omega)]; omega), oi_int ha, oi_int (by omega), oi_int (by omega)]
  omega
theorem STp_mono {s s' : Nat} {l a b : Int32} (h : STp s l a b) (hs : s ≤ s') : STp s' l a b := by
  rcases h with h | ⟨h1, h2, h3, h4⟩
  · exact Or.inl h
  · exact Or.inr ⟨h1, h2, h3, by omega⟩
theorem STp_b {s : Nat} {l a b : Int32} (h : STp s l a b) : b = 0 ∨ b = 1 ∨ b = 2 := by
  rcases h with ⟨h, h'⟩ | ⟨-, h, -⟩
  · rw [← h]; exact h'
  · exact Or.inr (Or.inr h)
theorem STp_1 {s : Nat} {l a b : Int32} (h : STp s l a b) : a = 1 ↔ b = 1 := by
  rcases h with ⟨h, -⟩ | ⟨h1, h2, -⟩
  · rw [h]
  · rw [h1, h2]; decide
def FR (F Rm P W D s : Nat) (Ic : tI) (Jc : tJ) (Ir : tI) : Prop := (P ≤ 5 ∧ W ≤ 6 ∧ D ≤ 5 ∧ s ≤ 2000) ∧ (Ic Rm 0 = Int32.ofNat W ∧ Ic Rm 1 = Int32.ofNat D ∧ Ic F 0 = Int32.ofNat P ∧ Ic F 1 = Int32.ofNat s) ∧ (Ir 186 0 = Int32.ofNat W ∧ Ir 186 1 = Int32.ofNat D ∧ Ir 186 2 = Int32.ofNat P ∧ Ir 186 5 = Int32.ofNat s) ∧ (∀ r c, r < 5 → c < 6 → Ir 186 (10 + (6 * r + c)) = if wb (Jc Rm 2) (10 * r + c) = true then 1 else 0) ∧ FKp F 40 s W D P Ic Ir
/-- within a second: who is looked at is told by the next one -/
def FQ (F Rm P W D s : Nat) (Ic : tI) (Jc : tJ) (Ir : tI) : Prop := (P ≤ 5 ∧ W ≤ 6 ∧ D ≤ 5 ∧ s ≤ 2000) ∧ (Ic Rm 0 = Int32.ofNat W ∧ Ic Rm 1 = Int32.ofNat D ∧ Ic F 0 = Int32.ofNat P ∧ Ic F 1 = Int32.ofNat s) ∧ (Ir 186 0 = Int32.ofNat W ∧ Ir 186 1 = Int32.ofNat D ∧ Ir 186 2 = Int32.ofNat P ∧ Ir 186 5 = Int32.ofNat s) ∧ (∀ r c, r < 5 → c < 6 → Ir 186 (10 + (6 * r + c)) = if wb (Jc Rm 2) (10 * r + c) = true then 1 else 0) ∧ FKp F 40 (s + 1) W D P Ic Ir
section DQ
variable {F Rm P W D s : Nat} {Ic Ir I1 I2 : tI} {Jc : tJ}
theorem FQ_of (h : FR F Rm P W D s Ic Jc Ir) : FQ F Rm P W D s Ic Jc Ir := ⟨h.1, h.2.1, h.2.2.1, h.2.2.2.1, fun p hp => by
  obtain ⟨a1, a2, a3, a4, a5⟩ := h.2.2.2.2 p hp
  exact ⟨a1, a2, a3, STp_mono a4 (by omega), a5⟩⟩
theorem FQ_up {p : Nat} (h : FQ F Rm P W D s Ic Jc Ir) (hp : p < P) (f1 : ∀ o k, ¬ ((o = F + 7 ∨ o = F + 8) ∧ k = p) → I1 o k = Ic o k) (f2 : ∀ o k, ¬ (o = 186 ∧ (k = 40 + 14 * p + 4 ∨ k = 40 + 14 * p + 5)) → I2 o k = Ir o k) (a1 : STp (s + 1) (Ic (F + 4) p) (I1 (F + 7) p) (I2 186 (40 + 14 * p + 4))) (a2 : RCw W D (I1 (F + 8) p) (I2 186 (40 + 14 * p + 5))) (hne : Rm < F) : FQ F Rm P W D s I1 Jc I2 := by
  obtain ⟨b, ⟨g0, g1, g2, g3⟩, ⟨k0, k1, k2, k3⟩, hw, hF⟩ := h
  refine ⟨b, ⟨by rw [f1 _ _ (by omega)]; exact g0, by rw [f1 _ _ (by omega)]; exact g1, by rw [f1 _ _ (by omega)]; exact g2, by rw [f1 _ _ (by omega)]; exact g3⟩, ⟨by rw [f2 _ _ (by omega)]; exact k0, by rw [f2 _ _ (by omega)]; exact k1, by rw [f2 _ _ (by omega)]; exact k2, by rw [f2 _ _ (by omega)]; exact k3⟩, fun r c hr hc => by rw [f2 _ _ (by omega)]; exact hw r c hr hc, fun i hi => ?_⟩
  obtain ⟨e1, ⟨e2, e3⟩, ⟨m, m1, m8, e4, e5, e6⟩, e7, e8⟩ := hF i hi
  have c : ∀ o, F + 2 ≤ o → o ≤ F + 6 → ∀ k, I1 o k = Ic o k := fun o q1 q2 k => f1 o k (by omega)
  rw [c (F + 2) (by omega) (by omega), c (F + 3) (by omega) (by omega), c (F + 4) (by omega) (by omega), c (F + 5) (by omega) (by omega), f2 _ (40 + 14 * i) (by omega), f2 _ (40 + 14 * i + 1) (by omega), f2 _ (40 + 14 * i + 2) (by omega), f2 _ (40 + 14 * i + 3) (by omega)]
  refine ⟨e1, ⟨e2, e3⟩, ⟨m, m1, m8, e4, e5, fun k hk => by rw [c (F + 6) (by omega) (by omega), f2 _ _ (by omega)]; exact e6 k hk⟩, ?_, ?_⟩
  · by_cases q : i = p
    · rw [q]; exact a1
    · rw [f1 _ _ (by omega), f2 _ _ (by omega)]; exact e7
  · by_cases q : i = p
    · rw [q]; exact a2
    · rw [f1 _ _ (by omega), f2 _ _ (by omega)]; exact e8
theorem FKp_cg {s' : Nat} (h : FKp F 40 s' W D P Ic Ir) (h1 : ∀ o k, F + 2 ≤ o → o ≤ F + 8 → I1 o k = Ic o k) (h2 : ∀ k, 40 ≤ k → I2 186 k = Ir 186 k) : FKp F 40 s' W D P I1 I2 := fun p hp => by
  obtain ⟨e1, ⟨e2, e3⟩, ⟨m, m1, m8, e4, e5, e6⟩, e7, e8⟩ := h p hp
  rw [h1 (F + 2) p (by omega) (by omega), h1 (F + 3) p (by omega) (by omega), h1 (F + 4) p (by omega) (by omega), h1 (F + 5) p (by omega) (by omega), h1 (F + 7) p (by omega) (by omega), h1 (F + 8) p (by omega) (by omega), h2 (40 + 14 * p) (by omega), h2 (40 + 14 * p + 1) (by omega), h2 (40 + 14 * p + 2) (by omega), h2 (40 + 14 * p + 3) (by omega), h2 (40 + 14 * p + 4) (by omega), h2 (40 + 14 * p + 5) (by omega)]
  exact ⟨e1, ⟨e2, e3⟩, ⟨m, m1, m8, e4, e5, fun k hk => by rw [h1 (F + 6) _ (by omega) (by omega), h2 _ (by omega)]; exact e6 k hk⟩, e7, e8⟩
theorem FKp_occ {s' i r c : Nat} (h : FKp F 40 s' W D P Ic Ir) (hi : i < P) (hg : W ≤ 6 ∧ D ≤ 5) (hr : r < D) (hc : c < W) : (Ic (F + 7) i = 1 ∧ Ic (F + 8) i = Int32.ofNat (10 * r + c)) ↔ (Ir 186 (40 + 14 * i + 4) = 1 ∧ Ir 186 (40 + 14 * i + 5) = Int32.ofNat (6 * r + c)) := by
  obtain ⟨-, -, -, e7, e8⟩ := h i hi
  have a := STp_1 e7
  have b := RCl_iff (RCw_l hg e8) (r := r) (c := c) (by omega) (by omega)
  exact ⟨fun q => ⟨a.mp q.1, b.mp q.2⟩, fun q => ⟨a.mpr q.1, b.mpr q.2⟩⟩
end DQ
section DR
variable {N P W D : Nat} {I : tI} {J : tJ}
theorem f253_is {x y : Int32} (h0 : I 186 0 = Int32.ofNat W) (h1 : I 186 1 = Int32.ofNat D) (hW : W ≤ 6) (hD : D ≤ 5) : f253_185 I J x y = (if 0 ≤ x.toInt ∧ x.toInt < W ∧ 0 ≤ y.toInt ∧ y.toInt < D then 1 else 0, I, J) := by
  unfold f253_185
  have z0 : (0 : Int32).toInt = 0 := rfl
  rw [tc_lt, z0, h0, tc_ge, oi_int (by omega), tc_lt, z0, h1, tc_ge, oi_int (by omega)]
  by_cases a : x.toInt < 0
  · rw [decide_eq_true a, cond_true, if_neg (by omega)]
  · rw [decide_eq_false a, cond_false]
    by_cases b : (W : Int) ≤ x.toInt
    · rw [decide_eq_true b, cond_true, if_neg (by omega)]
    · rw [decide_eq_false b, cond_false]
      by_cases c : y.toInt < 0
      · rw [decide_eq_true c, cond_true, if_neg (by omega)]
      · rw [decide_eq_false c, cond_false]
        by_cases d : (D : Int) ≤ y.toInt
        · rw [decide_eq_true d, cond_true, if_neg (by omega)]
        · rw [decide_eq_false d, cond_false, if_pos (by omega)]
theorem f262_is {c : Nat} (hc : c < 30) : f262_185 I J (Int32.ofNat c) = (if I 186 (10 + c) = 1 then 1 else 0, I, J) := by
  unfold f262_185
  rw [show ((10 : Int32) + Int32.ofNat c).toNatClampNeg = 10 + c from ox (a := 10) (by omega)]
  by_cases h : I 186 (10 + c) = 1
  · rw [xc_nen h, cond_false, if_pos h]
  · rw [xc_ne h, cond_true, if_neg h]
theorem f260_is {p w : Nat} {x : Int32} (hp : p < 10) (hx : x = Int32.ofNat w) (hw : w < 14) : f260_185 I J (Int32.ofNat p) x = (I 186 (40 + 14 * p + w), I, J) := by
  subst hx
  unfold f260_185 f251
  dsimp only
  rw [show (14 : Int32) * Int32.ofNat p = Int32.ofNat (14 * p) from oi_mul, show (40 : Int32) + Int32.ofNat (14 * p) = Int32.ofNat (40 + 14 * p) from oi_add, oi_add, oi_nat (by omega)]
theorem f261_is {p : Nat} (hp : p < 10) : f261_185 I J (Int32.ofNat p) = (if I 186 (40 + 14 * p + 4) = 1 then 1 else 0, I, J) := by
  unfold f261_185
  rw [f260_is (x := 4) (w := 4) hp rfl (by omega)]
  dsimp only
  by_cases h : I 186 (40 + 14 * p + 4) = 1
  · rw [xc_nen h, cond_false, if_pos h]
  · rw [xc_ne h, cond_true, if_neg h]
theorem f264_run {c : Int32} (hP : P ≤ 5) (h2 : I 186 2 = Int32.ofNat P) : ∀ (k p : Nat) {Y : Nat × Int32 × Int32 × tI × tJ}, p ≤ P → f264_185_l2 N k I J c (Int32.ofNat p) = some Y → Y.2.2.2 = (I, J) ∧ (if Y.1 = 0 then (-1 : Int32) else Y.2.2.1) = fdN (fun i => decide (I 186 (40 + 14 * i + 4) = 1 ∧ I 186 (40 + 14 * i + 5) = c)) (P - p) p
  | 0, _, _, _, h => by cases h
  | k + 1, p, Y, hp, h => by
    simp only [f264_185_l2] at h
    rw [h2, oi_ge (by omega) (by omega)] at h
    by_cases hpm : P ≤ p
    · rw [decide_eq_true hpm, cond_true] at h
      cases h
      rw [show P - p = 0 by omega]
      exact ⟨rfl, rfl⟩
    · rw [decide_eq_false hpm, cond_false, f261_is (by omega)] at h
      dsimp only at h
      rw [show P - p = (P - (p + 1)) + 1 by omega]
      simp only [fdN]
      by_cases a : I 186 (40 + 14 * p + 4) = 1
      · rw [if_pos a, q10, cond_false, f260_is (x := 5) (w := 5) (by omega) rfl (by omega)] at h
        dsimp only at h
        by_cases b : I 186 (40 + 14 * p + 5) = c
        · rw [xc_nen b, cond_false] at h
          cases h
          rw [decide_eq_true ⟨a, b⟩, cond_true]
          exact ⟨rfl, rfl⟩
        · rw [xc_ne b, cond_true, oi_suc (by omega)] at h
          rw [decide_eq_false (fun q => b q.2), cond_false]
          exact f264_run hP h2 k (p + 1) (by omega) h
      · rw [if_neg a, q00, cond_true, oi_suc (by omega)] at h
        rw [decide_eq_false (fun q => a q.1), cond_false]
        exact f264_run hP h2 k (p + 1) (by omega) h
theorem f264_is {c : Int32} {q : Int32 × tI × tJ} (hP : P ≤ 5) (h2 : I 186 2 = Int32.ofNat P) (h : f264_185 N I J c = some q) : q = (fdN (fun i => decide (I 186 (40 + 14 * i + 4) = 1 ∧ I 186 (40 + 14 * i + 5) = c)) P 0, I, J) := by
  unfold f264_185 at h
  cases hc : f264_185_l2 N N I J c 0 with
  | none => rw [hc] at h; cases h
  | some Y =>
    rw [hc] at h
    obtain ⟨a, b⟩ := f264_run hP h2 N 0 (Nat.zero_le _) hc
    obtain ⟨k1, y1, y2, Ia, Ja⟩ := Y
    dsimp only at h a b
    cases a
    rw [Nat.sub_zero] at b
    rw [← b]
    cases hk : Nat.beq k1 0 with
    | true =>
      rw [hk, cond_true] at h
      rw [if_pos (Nat.eq_of_beq_eq_true hk)]
      cases h
      rfl
    | false =>
      rw [hk, cond_false] at h
      rw [if_neg (fun q => by rw [q] at hk; cases hk)]
      cases h
      rfl
/-- the cell to which a step would lead -/
def nxC (W D r c : Nat) (z : Int32) : Option (Nat × Nat) := if z = 0 then (if c + 1 < W then some (r, c + 1) else none) else if z = 1 then (if r + 1 < D then some (r + 1, c) else none) else if z = 2 then (if 0 < c then some (r, c - 1) else none) else if z = 3 then (if 0 < r then some (r - 1, c) else none) else none
theorem nxC_in {r c r' c' : Nat} {z : Int32} (hr : r < D) (hc : c < W) (h : nxC W D r c z = some (r', c')) : r' < D ∧ c' < W ∧ ¬ (r' = r ∧ c' = c) := by
  unfold nxC at h
  split at h
  · split at h
    · cases h; omega
    · cases h
  · split at h
    · split at h
      · cases h; omega
      · cases h
    · split at h
      · split at h
        · cases h; omega
        · cases h
      · split at h
        · split at h
          · cases h; omega
          · cases h
        · cases h
theorem j47_out {c0 x s0 s1 : Int32} (h0 : I 186 0 = Int32.ofNat W) (h1 : I 186 1 = Int32.ofNat D) (hW : W ≤ 6) (hD : D ≤ 5) (ho : ¬ (0 ≤ x.toInt ∧ x.toInt < W ∧ 0 ≤ (s1 + s0).toInt ∧ (s1 + s0).toInt < D)) : f282_185_j47 I J c0 x s0 s1 = (c0, I, J) := by
  unfold f282_185_j47
  rw [f253_is h0 h1 hW hD]
  dsimp only
  rw [if_neg ho, q00, cond_true]
theorem j47_in {c0 x s0 s1 : Int32} {r' c' : Nat} (h0 : I 186 0 = Int32.ofNat W) (h1 : I 186 1 = Int32.ofNat D) (hW : W ≤ 6) (hD : D ≤ 5) (hx : x = Int32.ofNat c') (hy : s1 + s0 = Int32.ofNat r') (hr : r' < D) (hc : c' < W) : f282_185_j47 I J c0 x s0 s1 = (if I 186 (10 + (6 * r' + c')) = 1 then c0 else Int32.ofNat (6 * r' + c'), I, J) := by
  unfold f282_185_j47
  rw [f253_is h0 h1 hW hD, hy, hx]
  dsimp only
  rw [if_pos (by rw [oi_int (by omega), oi_int (by omega)]; omega), q10, cond_false, show (6 : Int32) * Int32.ofNat r' = Int32.ofNat (6 * r') from oi_mul, oi_add, f262_is (by omega)]
  dsimp only
  by_cases h : I 186 (10 + (6 * r' + c')) = 1
  · rw [if_pos h, if_pos h, n10, cond_true]
  · rw [if_neg h, if_neg h, n00, cond_false]
/-- where a step leads whom nobody bars -/
theorem f282_is {r c : Nat} {z : Int32} (h0 : I 186 0 = Int32.ofNat W) (h1 : I 186 1 = Int32.ofNat D) (hW : W ≤ 6) (hD : D ≤ 5) (hr : r < D) (hc : c < W) : f282_185 I J (Int32.ofNat (6 * r + c)) z = ((match nxC W D r c z with
    | some q => (if I 186 (10 + (6 * q.1 + q.2)) = 1 then Int32.ofNat (6 * r + c) else Int32.ofNat (6 * q.1 + q.2))
    | none => Int32.ofNat (6 * r + c)), I, J) := by
  obtain ⟨e1, e2⟩ := d6_at (r := r) (c := c) (by omega) (by omega)
  unfold f282_185
  rw [e2]
  by_cases z0 : z = 0
  · rw [xc_nen z0, cond_false]
    unfold f282_185_j22 nxC
    rw [if_pos z0, xc_ne (by rw [z0]; decide), cond_true, xc_ne (by rw [z0]; decide), cond_true, e1, oi_suc (by omega)]
    by_cases q : c + 1 < W
    · rw [if_pos q, j47_in h0 h1 hW hD rfl oi_z hr q]
    · rw [if_neg q, j47_out h0 h1 hW hD (by rw [oi_int (by omega)]; omega)]
  rw [xc_ne z0, cond_true]
  by_cases z2 : z = 2
  · rw [xc_nen z2, cond_false]
    unfold f282_185_j22 nxC
    rw [if_neg z0, if_neg (by rw [z2]; decide), if_pos z2, xc_ne (by rw [z2]; decide), cond_true, xc_ne (by rw [z2]; decide), cond_true, e1]
    by_cases q : 0 < c
    · rw [if_pos q, oi_pred q (by omega), j47_in h0 h1 hW hD rfl oi_z hr (by omega : c - 1 < W)]
    · have e0 : c = 0 := by omega
      rw [if_neg q, j47_out h0 h1 hW hD (by
        rw [e0]
        exact fun q => absurd q.1 (by decide))]
  rw [xc_ne z2, cond_true]
  unfold f282_185_j22 nxC
  rw [if_neg z0, oi_z, e1]
  by_cases z1 : z = 1
  · rw [xc_nen z1, cond_false, if_pos z1]
    by_cases q : r + 1 < D
    · rw [if_pos q, j47_in h0 h1 hW hD rfl (oi_suc (by omega)) q hc]
    · rw [if_neg q, j47_out h0 h1 hW hD (by rw [oi_suc (by omega), oi_int (p := r + 1) (by omega)]; omega)]
  rw [xc_ne z1, cond_true, if_neg z1, if_neg z2]
  by_cases z3 : z = 3
  · rw [xc_nen z3, cond_false, if_pos z3]
    by_cases q : 0 < r
    · rw [if_pos q, j47_in h0 h1 hW hD rfl (oi_pred q (by omega)) (by omega : r - 1 < D) hc]
    · have e0 : r = 0 := by omega
      rw [if_neg q, j47_out h0 h1 hW hD (by
        rw [e0]
        exact fun q => absurd q.2.2.1 (by decide))]
  · rw [xc_ne z3, cond_true, if_neg z3, j47_in h0 h1 hW hD rfl oi_z hr hc]
    dsimp only
    split <;> rfl
/-- nobody is found exactly where nobody is -/
theorem fdN_none {Q : Nat → Bool} {P : Nat} (hP : P ≤ 5) : fdN Q P 0 = -1 ↔ ∀ i, i < P → Q i = false := by
  rcases fdN_or (P := Q) P 0 with ⟨h1, h2⟩ | ⟨i, -, h2, h3, h4⟩
  · exact ⟨fun _ i hi => h2 i (by omega) (by omega), fun _ => h1⟩
  · refine ⟨fun h => absurd (h3.symm.trans h) (oi_m1 (by omega)), fun h => ?_⟩
    have := h i (by omega)
    rw [h4] at this
    cases this
theorem f264_free {c : Int32} {q : Int32 × tI × tJ} (hP : P ≤ 5) (h2 : I 186 2 = Int32.ofNat P) (h : f264_185 N I J c = some q) : ∃ v, q = (v, I, J) ∧ (v = -1 ↔ ∀ i, i < P → ¬ (I 186 (40 + 14 * i + 4) = 1 ∧ I 186 (40 + 14 * i + 5) = c)) := by
  refine ⟨_, f264_is hP h2 h, ?_⟩
  rw [fdN_none hP]
  exact ⟨fun h i hi => of_decide_eq_false (h i hi), fun h i hi => decide_eq_false (h i hi)⟩
theorem j61_is {p q s m r0 c0 r1 c1 : Nat} {u : Unit} {I2 : tI} {J2 : tJ} (hq : 40 + 14 * p = q) (hP : P ≤ 5) (hp : p < P) (hs : s ≤ 2000) (hW : W ≤ 6) (hD : D ≤ 5) (k0 : I 186 0 = Int32.ofNat W) (k1 : I 186 1 = Int32.ofNat D) (k2 : I 186 2 = Int32.ofNat P) (hr0 : r0 < D) (hc0 : c0 < W) (y0 : I 186 q = Int32.ofNat (6 * r0 + c0)) (m1 : 1 ≤ m) (m8 : m ≤ 8) (y5 : I 186 (q + 3) = Int32.ofNat m) (hr1 : r1 < D) (hc1 : c1 < W) (y8 : I 186 (q + 5) = Int32.ofNat (6 * r1 + c1)) (hb : I 186 (q + 4) = 0 ∨ I 186 (q + 4) = 1) (h : f283_185_j61 N I J (Int32.ofNat q) (Int32.ofNat s) = some (u, I2, J2)) : J2 = J ∧ ((I 186 (q + 4) = 1 ∧ ((nxC W D r1 c1 (I 186 (q + 6 + s % m)) = none ∧ I2 = I) ∨ ∃ r' c', nxC W D r1 c1 (I 186 (q + 6 + s % m)) = some (r', c') ∧ (((I 186 (10 + (6 * r' + c')) ≠ 1 ∧ ∀ i, i < P → ¬ (I 186 (40 + 14 * i + 4) = 1 ∧ I 186 (40 + 14 * i + 5) = Int32.ofNat (6 * r' + c'))) ∧ I2 = tup I 186 (q + 5) (Int32.ofNat (6 * r' + c'))) ∨ (¬ (I 186 (10 + (6 * r' + c')) ≠ 1 ∧ ∀ i, i < P → ¬ (I 186 (40 + 14 * i + 4) = 1 ∧ I 186 (40 + 14 * i + 5) = Int32.ofNat (6 * r' + c'))) ∧ I2 = I)))) ∨ (I 186 (q + 4) = 0 ∧ ((¬ (I 186 (q + 1)).toInt ≤ s + 1 ∧ I2 = I) ∨ ((I 186 (q + 1)).toInt ≤ s + 1 ∧ (I 186 (10 + (6 * r0 + c0)) ≠ 1 ∧ ∀ i, i < P → ¬ (I 186 (40 + 14 * i + 4) = 1 ∧ I 186 (40 + 14 * i + 5) = Int32.ofNat (6 * r0 + c0))) ∧ I2 = tup (tup I 186 (q + 4) 1) 186 (q + 5) (Int32.ofNat (6 * r0 + c0))) ∨ ((I 186 (q + 1)).toInt ≤ s + 1 ∧ ¬ (I 186 (10 + (6 * r0 + c0)) ≠ 1 ∧ ∀ i, i < P → ¬ (I 186 (40 + 14 * i + 4) = 1 ∧ I 186 (40 + 14 * i + 5) = Int32.ofNat (6 * r0 + c0))) ∧ I2 = I)))) := by
  have hlt := Nat.mod_lt s (show 0 < m by omega)
  unfold f283_185_j61 at h
  rw [show (Int32.ofNat q + 4).toNatClampNeg = q + 4 from ox (b := 4) (by omega), show (Int32.ofNat q + 5).toNatClampNeg = q + 5 from ox (b := 5) (by omega), show (Int32.ofNat q + 3).toNatClampNeg = q + 3 from ox (b := 3) (by omega), show (Int32.ofNat q + 1).toNatClampNeg = q + 1 from ox (b := 1) (by omega), y5, irem_nat (by omega) (by omega) (by omega), show Int32.ofNat q + 6 = Int32.ofNat (q + 6) from oi_add (b := 6), oi_add, oi_nat (p := q + 6 + s % m) (by omega), oi_nat (p := q) (by omega), y8, y0] at h
  rcases hb with b0 | b1
  · rw [xc_nen b0, cond_false, oi_suc (by omega), tc_gt, oi_int (by omega)] at h
    by_cases cm : (I 186 (q + 1)).toInt ≤ s + 1
    · rw [decide_eq_false (by omega), cond_false, f262_is (by omega)] at h
      dsimp only at h
      by_cases w : I 186 (10 + (6 * r0 + c0)) = 1
      · rw [if_pos w, n10, cond_true] at h
        cases h
        exact ⟨rfl, Or.inr ⟨b0, Or.inr (Or.inr ⟨cm, fun q => q.1 w, rfl⟩)⟩⟩
      · rw [if_neg w, n00, cond_false] at h
        replace h := obI h
        obtain ⟨v, Ia, Ja, e, h⟩ := h
        rw [y0] at e
        obtain ⟨v', eq, hv⟩ := f264_free hP k2 e
        cases eq
        by_cases hv1 : v = -1
        · rw [xc_eq hv1, cond_true, tup_ne (by omega), y0] at h
          cases h
          exact ⟨rfl, Or.inr ⟨b0, Or.inr (Or.inl ⟨cm, ⟨w, hv.mp hv1⟩, rfl⟩)⟩⟩
        · rw [xc_eqn hv1, cond_false] at h
          cases h
          exact ⟨rfl, Or.inr ⟨b0, Or.inr (Or.inr ⟨cm, fun q => hv1 (hv.mpr q.2), rfl⟩)⟩⟩
    · rw [decide_eq_true (by omega), cond_true] at h
      cases h
      exact ⟨rfl, Or.inr ⟨b0, Or.inl ⟨cm, rfl⟩⟩⟩
  · rw [xc_ne (by rw [b1]; decide), cond_true, f282_is k0 k1 hW hD hr1 hc1] at h
    -- himself he finds where he is
    have self : ∀ v : Int32, (v = -1 ↔ ∀ i, i < P → ¬ (I 186 (40 + 14 * i + 4) = 1 ∧ I 186 (40 + 14 * i + 5) = Int32.ofNat (6 * r1 + c1))) → v ≠ -1 := fun v hv e => hv.mp e p hp ⟨by rw [hq]; exact b1, by rw [hq]; exact y8⟩
    refine ⟨?_, Or.inl ⟨b1, ?_⟩⟩
    · dsimp only at h
      replace h := obI h
      obtain ⟨v, Ia, Ja, e, h⟩ := h
      obtain ⟨v', eq, hv⟩ := f264_free hP k2 e
      cases eq
      rcases bsp h with ⟨-, h⟩ | ⟨-, h⟩ <;> cases h <;> rfl
    cases hn : nxC W D r1 c1 (I 186 (q + 6 + s % m)) with
    | none =>
      rw [hn] at h
      dsimp only at h
      replace h := obI h
      obtain ⟨v, Ia, Ja, e, h⟩ := h
      obtain ⟨v', eq, hv⟩ := f264_free hP k2 e
      cases eq
      rw [xc_ne (self v hv), cond_true] at h
      cases h
      exact Or.inl ⟨rfl, rfl⟩
    | some nx =>
      obtain ⟨r', c'⟩ := nx
      have hin := nxC_in hr1 hc1 hn
      rw [hn] at h
      dsimp only at h
      refine Or.inr ⟨r', c', rfl, ?_⟩
      by_cases w : I 186 (10 + (6 * r' + c')) = 1
      · rw [if_pos w] at h
        replace h := obI h
        obtain ⟨v, Ia, Ja, e, h⟩ := h
        obtain ⟨v', eq, hv⟩ := f264_free hP k2 e
        cases eq
        rw [xc_ne (self v hv), cond_true] at h
        cases h
        exact Or.inr ⟨fun q => q.1 w, rfl⟩
      · rw [if_neg w] at h
        replace h := obI h
        obtain ⟨v, Ia, Ja, e, h⟩ := h
        obtain ⟨v', eq, hv⟩ := f264_free hP k2 e
        cases eq
        by_cases hv1 : v = -1
        · rw [xc_nen hv1, cond_false] at h
          cases h
          exact Or.inl ⟨⟨w, hv.mp hv1⟩, rfl⟩
        · rw [xc_ne hv1, cond_true] at h
          cases h
          exact Or.inr ⟨fun q => hv1 (hv.mpr q.2), rfl⟩
/-- one person goes on, in the reference -/
theorem f283_is {p s m r0 c0 r1 c1 : Nat} {u : Unit} {I2 : tI} {J2 : tJ} (hP : P ≤ 5) (hp : p < P) (hs : s ≤ 2000) (hW : W ≤ 6) (hD : D ≤ 5) (k0 : I 186 0 = Int32.ofNat W) (k1 : I 186 1 = Int32.ofNat D) (k2 : I 186 2 = Int32.ofNat P) (k3 : I 186 5 = Int32.ofNat s) (hr0 : r0 < D) (hc0 : c0 < W) (y0 : I 186 (40 + 14 * p) = Int32.ofNat (6 * r0 + c0)) (m1 : 1 ≤ m) (m8 : m ≤ 8) (y5 : I 186 (40 + 14 * p + 3) = Int32.ofNat m) (hr1 : r1 < D) (hc1 : c1 < W) (y8 : I 186 (40 + 14 * p + 5) = Int32.ofNat (6 * r1 + c1)) (hb : I 186 (40 + 14 * p + 4) = 0 ∨ I 186 (40 + 14 * p + 4) = 1 ∨ I 186 (40 + 14 * p + 4) = 2) (h : f283_185 N I J (Int32.ofNat p) = some (u, I2, J2)) : J2 = J ∧ ((I 186 (40 + 14 * p + 4) = 2 ∧ I2 = I) ∨ (I 186 (40 + 14 * p + 4) ≠ 2 ∧ (I 186 (40 + 14 * p + 2) ≠ -1 ∧ (I 186 (40 + 14 * p + 2)).toInt ≤ s + 1) ∧ I2 = tup I 186 (40 + 14 * p + 4) 2) ∨ (I 186 (40 + 14 * p + 4) = 1 ∧ ¬ (I 186 (40 + 14 * p + 2) ≠ -1 ∧ (I 186 (40 + 14 * p + 2)).toInt ≤ s + 1) ∧ ((nxC W D r1 c1 (I 186 (40 + 14 * p + 6 + s % m)) = none ∧ I2 = I) ∨ ∃ r' c', nxC W D r1 c1 (I 186 (40 + 14 * p + 6 + s % m)) = some (r', c') ∧ (((I 186 (10 + (6 * r' + c')) ≠ 1 ∧ ∀ i, i < P → ¬ (I 186 (40 + 14 * i + 4) = 1 ∧ I 186 (40 + 14 * i + 5) = Int32.ofNat (6 * r' + c'))) ∧ I2 = tup I 186 (40 + 14 * p + 5) (Int32.ofNat (6 * r' + c'))) ∨ (¬ (I 186 (10 + (6 * r' + c')) ≠ 1 ∧ ∀ i, i < P → ¬ (I 186 (40 + 14 * i + 4) = 1 ∧ I 186 (40 + 14 * i + 5) = Int32.ofNat (6 * r' + c'))) ∧ I2 = I)))) ∨ (I 186 (40 + 14 * p + 4) = 0 ∧ ¬ (I 186 (40 + 14 * p + 2) ≠ -1 ∧ (I 186 (40 + 14 * p + 2)).toInt ≤ s + 1) ∧ ((¬ (I 186 (40 + 14 * p + 1)).toInt ≤ s + 1 ∧ I2 = I) ∨ ((I 186 (40 + 14 * p + 1)).toInt ≤ s + 1 ∧ (I 186 (10 + (6 * r0 + c0)) ≠ 1 ∧ ∀ i, i < P → ¬ (I 186 (40 + 14 * i + 4) = 1 ∧ I 186 (40 + 14 * i + 5) = Int32.ofNat (6 * r0 + c0))) ∧ I2 = tup (tup I 186 (40 + 14 * p + 4) 1) 186 (40 + 14 * p + 5) (Int32.ofNat (6 * r0 + c0))) ∨ ((I 186 (40 + 14 * p + 1)).toInt ≤ s + 1 ∧ ¬ (I 186 (10 + (6 * r0 + c0)) ≠ 1 ∧ ∀ i, i < P → ¬ (I 186 (40 + 14 * i + 4) = 1 ∧ I 186 (40 + 14 * i + 5) = Int32.ofNat (6 * r0 + c0))) ∧ I2 = I)))) := by
  unfold f283_185 f251 at h
  dsimp only at h
  rw [show (14 : Int32) * Int32.ofNat p = Int32.ofNat (14 * p) from oi_mul, show (40 : Int32) + Int32.ofNat (14 * p) = Int32.ofNat (40 + 14 * p) from oi_add, show (Int32.ofNat (40 + 14 * p) + 4).toNatClampNeg = 40 + 14 * p + 4 from ox (b := 4) (by omega), show (Int32.ofNat (40 + 14 * p) + 2).toNatClampNeg = 40 + 14 * p + 2 from ox (b := 2) (by omega), k3] at h
  by_cases b2 : I 186 (40 + 14 * p + 4) = 2
  · rw [xc_nen b2, cond_false] at h
    cases h
    exact ⟨rfl, Or.inl ⟨b2, rfl⟩⟩
  · rw [xc_ne b2, cond_true, oi_suc (by omega), tc_gt, oi_int (by omega)] at h
    have hb' : I 186 (40 + 14 * p + 4) = 0 ∨ I 186 (40 + 14 * p + 4) = 1 := by
      rcases hb with q | q | q
      · exact Or.inl q
      · exact Or.inr q
      · exact absurd q b2
    have go : ¬ (I 186 (40 + 14 * p + 2) ≠ -1 ∧ (I 186 (40 + 14 * p + 2)).toInt ≤ s + 1) → f283_185_j61 N I J (Int32.ofNat (40 + 14 * p)) (Int32.ofNat s) = some (u, I2, J2) → J2 = J ∧ ((I 186 (40 + 14 * p + 4) = 2 ∧ I2 = I) ∨ (I 186 (40 + 14 * p + 4) ≠ 2 ∧ (I 186 (40 + 14 * p + 2) ≠ -1 ∧ (I 186 (40 + 14 * p + 2)).toInt ≤ s + 1) ∧ I2 = tup I 186 (40 + 14 * p + 4) 2) ∨ (I 186 (40 + 14 * p + 4) = 1 ∧ ¬ (I 186 (40 + 14 * p + 2) ≠ -1 ∧ (I 186 (40 + 14 * p + 2)).toInt ≤ s + 1) ∧ ((nxC W D r1 c1 (I 186 (40 + 14 * p + 6 + s % m)) = none ∧ I2 = I) ∨ ∃ r' c', nxC W D r1 c1 (I 186 (40 + 14 * p + 6 + s % m)) = some (r', c') ∧ (((I 186 (10 + (6 * r' + c')) ≠ 1 ∧ ∀ i, i < P → ¬ (I 186 (40 + 14 * i + 4) = 1 ∧ I 186 (40 + 14 * i + 5) = Int32.ofNat (6 * r' + c'))) ∧ I2 = tup I 186 (40 + 14 * p + 5) (Int32.ofNat (6 * r' + c'))) ∨ (¬ (I 186 (10 + (6 * r' + c')) ≠ 1 ∧ ∀ i, i < P → ¬ (I 186 (40 + 14 * i + 4) = 1 ∧ I 186 (40 + 14 * i + 5) = Int32.ofNat (6 * r' + c'))) ∧ I2 = I)))) ∨ (I 186 (40 + 14 * p + 4) = 0 ∧ ¬ (I 186 (40 + 14 * p + 2) ≠ -1 ∧ (I 186 (40 + 14 * p + 2)).toInt ≤ s + 1) ∧ ((¬ (I 186 (40 + 14 * p + 1)).toInt ≤ s + 1 ∧ I2 = I) ∨ ((I 186 (40 + 14 * p + 1)).toInt ≤ s + 1 ∧ (I 186 (10 + (6 * r0 + c0)) ≠ 1 ∧ ∀ i, i < P → ¬ (I 186 (40 + 14 * i + 4) = 1 ∧ I 186 (40 + 14 * i + 5) = Int32.ofNat (6 * r0 + c0))) ∧ I2 = tup (tup I 186 (40 + 14 * p + 4) 1) 186 (40 + 14 * p + 5) (Int32.ofNat (6 * r0 + c0))) ∨ ((I 186 (40 + 14 * p + 1)).toInt ≤ s + 1 ∧ ¬ (I 186 (10 + (6 * r0 + c0)) ≠ 1 ∧ ∀ i, i < P → ¬ (I 186 (40 + 14 * i + 4) = 1 ∧ I 186 (40 + 14 * i + 5) = Int32.ofNat (6 * r0 + c0))) ∧ I2 = I)))) := fun nd h => by
      obtain ⟨a, b⟩ := j61_is (q := 40 + 14 * p) rfl hP hp hs hW hD k0 k1 k2 hr0 hc0 y0 m1 m8 y5 hr1 hc1 y8 hb' h
      rcases b with ⟨b1, b⟩ | ⟨b1, b⟩
      · exact ⟨a, Or.inr (Or.inr (Or.inl ⟨b1, nd, b⟩))⟩
      · exact ⟨a, Or.inr (Or.inr (Or.inr ⟨b1, nd, b⟩))⟩
    by_cases l1 : I 186 (40 + 14 * p + 2) = -1
    · rw [xc_eq l1, cond_true] at h
      exact go (fun q => q.1 l1) h
    · rw [xc_eqn l1, cond_false] at h
      by_cases l2 : ((s + 1 : Nat) : Int) < (I 186 (40 + 14 * p + 2)).toInt
      · rw [decide_eq_true l2, cond_true] at h
        exact go (fun q => by have := q.2; omega) h
      · rw [decide_eq_false l2, cond_false] at h
        cases h
        exact ⟨rfl, Or.inr (Or.inl ⟨b2, ⟨l1, by omega⟩, rfl⟩)⟩
theorem f265_run (hP : P ≤ 5) (h2 : I 186 2 = Int32.ofNat P) : ∀ (k p : Nat) {Y : Nat × Int32 × tI × tJ}, p ≤ P → (∀ j, j < p → I 186 (40 + 14 * j + 4) ≠ 1) → f265_185_l17 N k I J (Int32.ofNat p) = some Y → Y.2.2 = (I, J) ∧ ((Y.1 = 0 ∧ ∀ j, j < P → I 186 (40 + 14 * j + 4) ≠ 1) ∨ (Y.1 = 1 ∧ ∃ j, j < P ∧ I 186 (40 + 14 * j + 4) = 1))
  | 0, _, _, _, _, h => by cases h
  | k + 1, p, Y, hp, hn, h => by
    simp only [f265_185_l17] at h
    rw [h2, oi_ge (by omega) (by omega)] at h
    by_cases hpm : P ≤ p
    · rw [decide_eq_true hpm, cond_true] at h
      cases h
      exact ⟨rfl, Or.inl ⟨rfl, fun j hj => hn j (by omega)⟩⟩
    · rw [decide_eq_false hpm, cond_false, f261_is (by omega)] at h
      dsimp only at h
      by_cases a : I 186 (40 + 14 * p + 4) = 1
      · rw [if_pos a, q10, cond_false] at h
        cases h
        exact ⟨rfl, Or.inr ⟨rfl, p, by omega, a⟩⟩
      · rw [if_neg a, q00, cond_true, oi_suc (by omega)] at h
        exact f265_run hP h2 k (p + 1) (by omega) (fun j hj => by
          by_cases e : j = p
          · rw [e]; exact a
          · exact hn j (by omega)) h
end DR
/-- a person's word, whether there, as plain numbers -/
def lkv (I : tI) (x w : Int32) : Int32 := I 186 ((40 + 14 * x) + w).toNatClampNeg
def prv (I : tI) (x : Int32) : Int32 := bif xcmp .ne (lkv I x 4) 1 then 0 else 1
theorem f260_any {I : tI} {J : tJ} {x w : Int32} : f260_185 I J x w = (lkv I x w, I, J) := rfl
theorem f261_any {I : tI} {J : tJ} {x : Int32} : f261_185 I J x = (prv I x, I, J) := by
  unfold f261_185 prv
  rw [f260_any]
  dsimp only
  cases xcmp .ne (lkv I x 4) 1 <;> rfl
theorem pr_is {I : tI} {p : Nat} (hp : p < 10) : prv I (Int32.ofNat p) = if I 186 (40 + 14 * p + 4) = 1 then 1 else 0 := by
  have h := f261_is (I := I) (J := fun _ _ => 0) hp
  rw [f261_any] at h
  exact congrArg Prod.fst h
theorem lk_is {I : tI} {p w : Nat} {x : Int32} (hp : p < 10) (hx : x = Int32.ofNat w) (hw : w < 14) : lkv I (Int32.ofNat p) x = I 186 (40 + 14 * p + w) := by
  have h := f260_is (I := I) (J := fun _ _ => 0) hp hx hw
  rw [f260_any] at h
  exact congrArg Prod.fst h
theorem f265_flat {N i : Nat} {I : tI} {J : tJ} {K A B : Int32} (hi : i < 100) (hK : I 186 (110 + 3 * i) = K) (hA : I 186 (110 + 3 * i + 1) = A) (hB : I 186 (110 + 3 * i + 2) = B) : f265_185 N I J (Int32.ofNat i) = (bif xcmp .ne K 2 then (bif xcmp .ne (prv I A) 0 then (bif xcmp .ne K 0 then (bif xcmp .eq (prv I B) 0 then some (0, I, J) else bif xcmp .ne ((if 0 ≤ ((lkv I A 5 - lkv I A 5 / 6 * 6) - (lkv I B 5 - lkv I B 5 / 6 * 6)) then ((lkv I A 5 - lkv I A 5 / 6 * 6) - (lkv I B 5 - lkv I B 5 / 6 * 6)) else 0 - ((lkv I A 5 - lkv I A 5 / 6 * 6) - (lkv I B 5 - lkv I B 5 / 6 * 6))) + (if 0 ≤ ((lkv I A 5 / 6) - (lkv I B 5 / 6)) then ((lkv I A 5 / 6) - (lkv I B 5 / 6)) else 0 - ((lkv I A 5 / 6) - (lkv I B 5 / 6)))) 1 then some (0, I, J) else some (1, I, J)) else bif xcmp .ne (lkv I A 5) B then some (0, I, J) else some (1, I, J)) else some (0, I, J)) else (match f265_185_l17 N N I J 0 with | none => none | some (k12, y12_3, I12, J12) => bif Nat.beq k12 0 then (some (1, I12, J12)) else some (0, I12, J12)) : Option (Int32 × tI × tJ)) := by
  subst hK hA hB
  unfold f265_185 f252
  dsimp only
  rw [show (3 : Int32) * Int32.ofNat i = Int32.ofNat (3 * i) from oi_mul, show (110 : Int32) + Int32.ofNat (3 * i) = Int32.ofNat (110 + 3 * i) from oi_add, oi_nat (p := 110 + 3 * i) (by omega), show (Int32.ofNat (110 + 3 * i) + 1).toNatClampNeg = 110 + 3 * i + 1 from ox (b := 1) (by omega), show (Int32.ofNat (110 + 3 * i) + 2).toNatClampNeg = 110 + 3 * i + 2 from ox (b := 2) (by omega)]
  simp only [f260_any, f261_any]
  cases f265_185_l17 N N I J 0 <;> rfl
