/-! MARKS: worlds kept aside, both ways; V tells what two worlds have alike -/
def CPV (V : Nat → Nat → Nat → tI → tJ → tI → tJ → Prop) : Prop := ∀ (b sl u b' sl' u' : Nat) (Ic Ir Ic' Ir' : tI) (Jc Jr Jc' Jr' : tJ), V b sl u Ic Jc Ir Jr → (∀ j k, cpI j k → Ic' (b' + j) k = Ic (b + j) k) → (∀ j k, cpJ j k → Jc' (b' + j) k = Jc (b + j) k) → (∀ k, k < 612 → Ir' 186 (sl' + k) = Ir 186 (sl + k)) → (∀ k, k < 15 → Jr' 187 (u' + k) = Jr 187 (u + k)) → V b' sl' u' Ic' Jc' Ir' Jr'
def RV (V : Nat → Nat → Nat → tI → tJ → tI → tJ → Prop) (Ic : tI) (Jc : tJ) (Ir : tI) (Jr : tJ) : Prop := V 10 0 0 Ic Jc Ir Jr ∧ ∃ n, n ≤ 3 ∧ (Ic 0 12 = Int32.ofNat n ∧ Ir 185 36 = Int32.ofNat n) ∧ ∀ j, j < n → V (113 + 24 * j) (620 * (j + 1)) (15 * (j + 1)) Ic Jc Ir Jr
def takF (d s : Nat) (I : tI) (J : tJ) (I1 : tI) (J1 : tJ) : Prop := (∀ j k, cpI j k → I1 (d + j) k = I (s + j) k) ∧ (∀ j k, cpJ j k → J1 (d + j) k = J (s + j) k) ∧ ∀ o k, ¬ (d ≤ o ∧ o ≤ d + 23) → I1 o k = I o k ∧ J1 o k = J o k
section MKS
variable {N N' : Nat} {Ic Ir I1 I2 Ia : tI} {Jc Jr J1 J2 Ja : tJ} {v w : Int32} {V : Nat → Nat → Nat → tI → tJ → tI → tJ → Prop}
theorem cpI_lt {j k : Nat} (h : cpI j k) : j ≤ 23 := by
  unfold cpI at h
  omega
theorem cpJ_lt {j k : Nat} (h : cpJ j k) : j ≤ 23 := by
  unfold cpJ at h
  omega
theorem copy_l2 {a b : Nat} (hab : a ≠ b) (ha : a ≤ 3) (hb : b ≤ 3) : ∀ (k p : Nat) {I : tI} {J : tJ} {Y : Int32 × Int32 × Int32 × tI × tJ}, p ≤ 620 → f349_185_l2 N k I J (Int32.ofNat a) (Int32.ofNat b) (Int32.ofNat p) = some Y → Y.1 = Int32.ofNat a ∧ Y.2.1 = Int32.ofNat b ∧ Y.2.2.2.2 = J ∧ (∀ o i, ¬ (o = 186 ∧ 620 * b + p ≤ i ∧ i < 620 * b + 620) → Y.2.2.2.1 o i = I o i) ∧ ∀ i, p ≤ i → i < 620 → Y.2.2.2.1 186 (620 * b + i) = I 186 (620 * a + i)
  | 0, _, _, _, _, _, h => by cases h
  | k + 1, p, I, J, Y, hp, h => by
    simp only [f349_185_l2] at h
    rw [show xcmp .ge (Int32.ofNat p) 620 = decide (620 ≤ p) from oi_ge (q := 620) (by omega) (by omega)] at h
    by_cases e : 620 ≤ p
    · rw [decide_eq_true e, cond_true] at h
      cases h
      exact ⟨rfl, rfl, rfl, fun _ _ _ => rfl, fun i h1 h2 => absurd h1 (by omega)⟩
    · rw [decide_eq_false e, cond_false, show (620 : Int32) * Int32.ofNat a = Int32.ofNat (620 * a) from oi_mul (a := 620), show (620 : Int32) * Int32.ofNat b = Int32.ofNat (620 * b) from oi_mul (a := 620), oi_add, oi_add, oi_nat (by omega), oi_nat (by omega), oi_suc (by omega)] at h
      obtain ⟨h1, h2, h3, h4, h5⟩ := copy_l2 hab ha hb k (p + 1) (by omega) h
      refine ⟨h1, h2, h3, fun o i hn => ?_, fun i q1 q2 => ?_⟩
      · rw [h4 o i (fun q => hn ⟨q.1, by omega, q.2.2⟩), tup_ne (fun q => hn ⟨q.1, by omega, by omega⟩)]
      · by_cases e2 : i = p
        · rw [h4 186 (620 * b + i) (fun q => by omega), e2, tup_eq]
        · rw [h5 i (by omega) q2, tup_ne (by omega)]
theorem copy_l41 {a b : Nat} (hab : a ≠ b) (ha : a ≤ 3) (hb : b ≤ 3) : ∀ (k p : Nat) {I : tI} {J : tJ} {Y : Int32 × Int32 × Int32 × tI × tJ}, p ≤ 15 → f349_185_l41 N k I J (Int32.ofNat a) (Int32.ofNat b) (Int32.ofNat p) = some Y → Y.2.2.2.1 = I ∧ (∀ o i, ¬ (o = 187 ∧ 15 * b + p ≤ i ∧ i < 15 * b + 15) → Y.2.2.2.2 o i = J o i) ∧ ∀ i, p ≤ i → i < 15 → Y.2.2.2.2 187 (15 * b + i) = J 187 (15 * a + i)
  | 0, _, _, _, _, _, h => by cases h
  | k + 1, p, I, J, Y, hp, h => by
    simp only [f349_185_l41] at h
    rw [show xcmp .ge (Int32.ofNat p) 15 = decide (15 ≤ p) from oi_ge (q := 15) (by omega) (by omega)] at h
    by_cases e : 15 ≤ p
    · rw [decide_eq_true e, cond_true] at h
      cases h
      exact ⟨rfl, fun _ _ _ => rfl, fun i h1 h2 => absurd h1 (by omega)⟩
    · rw [decide_eq_false e, cond_false, show (15 : Int32) * Int32.ofNat a = Int32.ofNat (15 * a) from oi_mul (a := 15), show (15 : Int32) * Int32.ofNat b = Int32.ofNat (15 * b) from oi_mul (a := 15), oi_add, oi_add, oi_nat (by omega), oi_nat (by omega), oi_suc (by omega)] at h
      obtain ⟨h3, h4, h5⟩ := copy_l41 hab ha hb k (p + 1) (by omega) h
      refine ⟨h3, fun o i hn => ?_, fun i q1 q2 => ?_⟩
      · rw [h4 o i (fun q => hn ⟨q.1, by omega, q.2.2⟩), tup_ne (fun q => hn ⟨q.1, by omega, by omega⟩)]
      · by_cases e2 : i = p
        · rw [h4 187 (15 * b + i) (fun q => by omega), e2, tup_eq]
        · rw [h5 i (by omega) q2, tup_ne (by omega)]
theorem copy_ok {a b : Nat} {I : tI} {J : tJ} {u : Unit} (hab : a ≠ b) (ha : a ≤ 3) (hb : b ≤ 3) (h : f349_185 N I J (Int32.ofNat a) (Int32.ofNat b) = some (u, I1, J1)) : (∀ o i, ¬ (o = 186 ∧ 620 * b ≤ i ∧ i < 620 * b + 620) → I1 o i = I o i) ∧ (∀ i, i < 620 → I1 186 (620 * b + i) = I 186 (620 * a + i)) ∧ (∀ o i, ¬ (o = 187 ∧ 15 * b ≤ i ∧ i < 15 * b + 15) → J1 o i = J o i) ∧ ∀ i, i < 15 → J1 187 (15 * b + i) = J 187 (15 * a + i) := by
  unfold f349_185 at h
  cases e1 : f349_185_l2 N N I J (Int32.ofNat a) (Int32.ofNat b) 0 with
  | none => rw [e1] at h; cases h
  | some Y =>
  obtain ⟨a1, a2, a3, a4, a5⟩ := copy_l2 hab ha hb N 0 (by omega) e1
  obtain ⟨y1, y2, y3, I3, J3⟩ := Y
  rw [e1] at h
  dsimp only at h a1 a2 a3 a4 a5
  subst a1 a2 a3
  cases e2 : f349_185_l41 N N I3 J3 (Int32.ofNat a) (Int32.ofNat b) 0 with
  | none => rw [e2] at h; cases h
  | some Y =>
  obtain ⟨b1, b2, b3⟩ := copy_l41 hab ha hb N 0 (by omega) e2
  obtain ⟨z1, z2, z3, I4, J4⟩ := Y
  rw [e2] at h
  dsimp only at h b1 b2 b3
  subst b1
  cases h
  exact ⟨a4, fun i hi => a5 i (by omega) hi, b2, fun i hi => b3 i (by omega) hi⟩
theorem mk_fin {n : Nat} (hV : CPV V) (h : V 10 0 0 Ic Jc Ir Jr) (hm : ∀ j, j < n → V (113 + 24 * j) (620 * (j + 1)) (15 * (j + 1)) Ic Jc Ir Jr) (hn : n < 3) (t : takF (113 + 24 * n) 10 Ic Jc Ia J1) (h1 : ∀ o k, 10 ≤ o → I1 o k = Ia o k) (h12 : I1 0 12 = Int32.ofNat (n + 1)) (g1 : ∀ i, ¬ (620 * (n + 1) ≤ i ∧ i < 620 * (n + 1) + 620) → I2 186 i = Ir 186 i) (g2 : ∀ i, i < 620 → I2 186 (620 * (n + 1) + i) = Ir 186 i) (g3 : ∀ i, ¬ (15 * (n + 1) ≤ i ∧ i < 15 * (n + 1) + 15) → J2 187 i = Jr 187 i) (g4 : ∀ i, i < 15 → J2 187 (15 * (n + 1) + i) = Jr 187 i) (g36 : I2 185 36 = Int32.ofNat (n + 1)) : RV V I1 J1 I2 J2 := by
  obtain ⟨t1, t2, t3⟩ := t
  refine ⟨hV _ _ _ _ _ _ _ _ _ _ _ _ _ _ h (fun j k q => ?_) (fun j k q => ?_) (fun k q => g1 _ (by omega)) (fun k q => g3 _ (by omega)), n + 1, by omega, ⟨h12, g36⟩, fun i hi => ?_⟩
  · have := cpI_lt q
    rw [h1 _ _ (by omega), (t3 _ _ (by omega)).1]
  · have := cpJ_lt q
    rw [(t3 _ _ (by omega)).2]
  · by_cases e : i = n
    · subst e
      refine hV _ _ _ _ _ _ _ _ _ _ _ _ _ _ h (fun j k q => ?_) (fun j k q => t2 j k q) (fun k q => ?_) (fun k q => ?_)
      · rw [h1 _ _ (by omega)]
        exact t1 j k q
      · rw [g2 k (by omega), Nat.zero_add]
      · rw [g4 k q, Nat.zero_add]
    · refine hV _ _ _ _ _ _ _ _ _ _ _ _ _ _ (hm i (by omega)) (fun j k q => ?_) (fun j k q => ?_) (fun k q => g1 _ (by omega)) (fun k q => g3 _ (by omega))
      · have := cpI_lt q
        rw [h1 _ _ (by omega), (t3 _ _ (by omega)).1]
      · have := cpJ_lt q
        rw [(t3 _ _ (by omega)).2]
theorem mark_rel (hV : CPV V) (h : RV V Ic Jc Ir Jr) (hc : f197_0 Ic Jc = (v, I1, J1)) (hr : f350_185 N' Ir Jr = some (w, I2, J2)) : v = w ∧ RV V I1 J1 I2 J2 := by
  obtain ⟨h0, n, hn, ⟨c12, r36⟩, hm⟩ := h
  unfold f197_0 at hc
  unfold f350_185 at hr
  rw [c12] at hc
  rw [r36] at hr
  by_cases e3 : n = 3
  · subst e3
    rw [show xcmp .lt (Int32.ofNat 3) 3 = false from rfl, cond_false] at hc
    rw [show xcmp .ne (Int32.ofNat 3) 3 = false from rfl, cond_false] at hr
    unfold f122_0 at hc
    unfold f205_185 at hr
    cases hc
    cases hr
    refine ⟨rfl, hV _ _ _ _ _ _ _ _ _ _ _ _ _ _ h0 (fun j k q => tup_ne (by omega)) (fun j k q => rfl) (fun k q => tup_ne (by omega)) (fun k q => rfl), 3, by omega, ⟨(tup_ne (by omega)).trans c12, (tup_ne (by omega)).trans r36⟩, fun i hi => hV _ _ _ _ _ _ _ _ _ _ _ _ _ _ (hm i hi) (fun j k q => tup_ne (by omega)) (fun j k q => rfl) (fun k q => tup_ne (by omega)) (fun k q => rfl)⟩
  · have hn3 : n < 3 := by omega
    have en : Int32.ofNat n + 1 = Int32.ofNat (n + 1) := oi_suc (by omega)
    rw [show xcmp .lt (Int32.ofNat n) 3 = decide (n < 3) from oi_lt (q := 3) (by omega) (by omega), decide_eq_true hn3, cond_true] at hc
    rw [xc_ne (y := 3) (fun q => e3 (oi_inj (b := 3) (by omega) (by omega) q)), cond_true, en] at hr
    obtain ⟨_, I4, J4, e4, hr⟩ := obU hr
    obtain ⟨a1, a2, a3, a4⟩ := copy_ok (a := 0) (b := n + 1) (by omega) (by omega) (by omega) e4
    unfold f206_185 at hr
    dsimp only at hr
    cases hr
    have fin : ∀ {Ib : tI} {Jb : tJ}, takF (113 + 24 * n) 10 Ic Jc Ib Jb → f121_0 (tup Ib 0 12 (Ib 0 12 + 1)) Jb (Ib 0 12 + 1) = (v, I1, J1) → v = I4 185 36 ∧ RV V I1 J1 (tup I4 185 2 0) J2 := fun {Ib Jb} t hq => by
      have hb12 : Ib 0 12 = Int32.ofNat n := by rw [(t.2.2 0 12 (by omega)).1, c12]
      have h36 : I4 185 36 = Int32.ofNat (n + 1) := by rw [a1 185 36 (by omega), tup_eq]
      unfold f121_0 at hq
      rw [hb12, en] at hq
      cases hq
      refine ⟨h36.symm, mk_fin (n := n) hV h0 hm hn3 t (fun o k q => by rw [tup_ne (by omega), tup_ne (by omega)]) (by rw [tup_ne (by omega), tup_eq]) (fun i q => ?_) (fun i q => ?_) (fun i q => ?_) (fun i q => ?_) (by rw [tup_ne (by omega)]; exact h36)⟩
      · rw [tup_ne (by omega), a1 186 i (by omega), tup_ne (by omega)]
      · rw [tup_ne (by omega), a2 i q, tup_ne (by omega)]
        congr 1
        omega
      · rw [a3 187 i (by omega)]
      · rw [a4 i q]
        congr 1
        omega
    rcases (by omega : n = 0 ∨ n = 1 ∨ n = 2) with rfl | rfl | rfl
    · rw [show xcmp .eq (Int32.ofNat 0) 0 = true from rfl, cond_true] at hc
      generalize e1 : f105_113_10 Ic Jc = q at hc
      obtain ⟨u1, Ib, Jb⟩ := q
      exact fin (take_113_10 e1) hc
    · rw [show xcmp .eq (Int32.ofNat 1) 0 = false from rfl, cond_false, show xcmp .eq (Int32.ofNat 1) 1 = true from rfl, cond_true] at hc
      generalize e1 : f105_137_10 Ic Jc = q at hc
      obtain ⟨u1, Ib, Jb⟩ := q
      exact fin (take_137_10 e1) hc
    · rw [show xcmp .eq (Int32.ofNat 2) 0 = false from rfl, cond_false, show xcmp .eq (Int32.ofNat 2) 1 = false from rfl, cond_false] at hc
      generalize e1 : f105_161_10 Ic Jc = q at hc
      obtain ⟨u1, Ib, Jb⟩ := q
      exact fin (take_161_10 e1) hc
theorem undo_rel (hV : CPV V) (h : RV V Ic Jc Ir Jr) (hc : f198_0 Ic Jc = (v, I1, J1)) (hr : f351_185 N' Ir Jr = some (w, I2, J2)) : v = w ∧ RV V I1 J1 I2 J2 := by
  obtain ⟨h0, n, hn, ⟨c12, r36⟩, hm⟩ := h
  unfold f198_0 at hc
  unfold f351_185 at hr
  rw [c12] at hc
  rw [r36] at hr
  by_cases e3 : n = 0
  · subst e3
    rw [show xcmp .ge (Int32.ofNat 0) 1 = false from rfl, cond_false] at hc
    rw [show xcmp .ne (Int32.ofNat 0) 0 = false from rfl, cond_false] at hr
    unfold f122_0 at hc
    unfold f205_185 at hr
    cases hc
    cases hr
    exact ⟨rfl, hV _ _ _ _ _ _ _ _ _ _ _ _ _ _ h0 (fun j k q => tup_ne (by omega)) (fun j k q => rfl) (fun k q => tup_ne (by omega)) (fun k q => rfl), 0, by omega, ⟨(tup_ne (by omega)).trans c12, (tup_ne (by omega)).trans r36⟩, fun i hi => absurd hi (by omega)⟩
  · obtain ⟨m, rfl⟩ : ∃ m, n = m + 1 := ⟨n - 1, by omega⟩
    have en : Int32.ofNat (m + 1) - 1 = Int32.ofNat m := by
      apply i32_eq
      rw [oi_sub1 (by omega), oi_int (by omega)]
      omega
    rw [show xcmp .ge (Int32.ofNat (m + 1)) 1 = decide (1 ≤ m + 1) from oi_ge (q := 1) (by omega) (by omega), decide_eq_true (by omega), cond_true, en] at hc
    rw [xc_ne (y := 0) (fun q => e3 (oi_inj (b := 0) (by omega) (by omega) q)), cond_true] at hr
    obtain ⟨_, I4, J4, e4, hr⟩ := obU hr
    obtain ⟨a1, a2, a3, a4⟩ := copy_ok (a := m + 1) (b := 0) (by omega) (by omega) (by omega) e4
    have h36 : I4 185 36 = Int32.ofNat (m + 1) := by rw [a1 185 36 (by omega), r36]
    unfold f206_185 at hr
    rw [h36, en] at hr
    dsimp only at hr
    cases hr
    have fin : ∀ {Ib : tI} {Jb : tJ}, takF 10 (113 + 24 * m) (tup Ic 0 12 (Int32.ofNat m)) Jc Ib Jb → f121_0 Ib Jb (Ib 0 12) = (v, I1, J1) → v = Int32.ofNat m ∧ RV V I1 J1 (tup (tup I4 185 36 (Int32.ofNat m)) 185 2 0) J2 := fun {Ib Jb} t hq => by
      have hb12 : Ib 0 12 = Int32.ofNat m := by rw [(t.2.2 0 12 (by omega)).1, tup_eq]
      unfold f121_0 at hq
      rw [hb12] at hq
      cases hq
      refine ⟨rfl, hV _ _ _ _ _ _ _ _ _ _ _ _ _ _ (hm m (by omega)) (fun j k q => ?_) (fun j k q => t.2.1 j k q) (fun k q => ?_) (fun k q => ?_), m, by omega, ⟨?_, ?_⟩, fun i hi => hV _ _ _ _ _ _ _ _ _ _ _ _ _ _ (hm i (by omega)) (fun j k q => ?_) (fun j k q => ?_) (fun k q => ?_) (fun k q => ?_)⟩
      · rw [tup_ne (by omega), t.1 j k q, tup_ne (by omega)]
      · rw [tup_ne (by omega), tup_ne (by omega)]
        have := a2 k (by omega)
        rw [Nat.mul_zero] at this
        exact this
      · have := a4 k q
        rw [Nat.mul_zero] at this
        exact this
      · rw [tup_ne (by omega)]
        exact hb12
      · rw [tup_ne (by omega), tup_eq]
      · have := cpI_lt q
        rw [tup_ne (by omega), (t.2.2 _ _ (by omega)).1, tup_ne (by omega)]
      · have := cpJ_lt q
        rw [(t.2.2 _ _ (by omega)).2]
      · rw [tup_ne (by omega), tup_ne (by omega), a1 186 (620 * (i + 1) + k) (by omega)]
      · rw [a3 187 (15 * (i + 1) + k) (by omega)]
    rcases (by omega : m = 0 ∨ m = 1 ∨ m = 2) with rfl | rfl | rfl
    · rw [show xcmp .eq (Int32.ofNat 0) 0 = true from rfl, cond_true] at hc
      generalize e1 : f105_10_113 (tup Ic 0 12 (Int32.ofNat 0)) Jc = q at hc
      obtain ⟨u1, Ib, Jb⟩ := q
      exact fin (take_10_113 e1) hc
    · rw [show xcmp .eq (Int32.ofNat 1) 0 = false from rfl, cond_false, show xcmp .eq (Int32.ofNat 1) 1 = true from rfl, cond_true] at hc
      generalize e1 : f105_10_137 (tup Ic 0 12 (Int32.ofNat 1)) Jc = q at hc
      obtain ⟨u1, Ib, Jb⟩ := q
      exact fin (take_10_137 e1) hc
    · rw [show xcmp .eq (Int32.ofNat 2) 0 = false from rfl, cond_false, show xcmp .eq (Int32.ofNat 2) 1 = false from rfl, cond_false] at hc
      generalize e1 : f105_10_161 (tup Ic 0 12 (Int32.ofNat 2)) Jc = q at hc
      obtain ⟨u1, Ib, Jb⟩ := q
      exact fin (take_10_161 e1) hc
end MKS
