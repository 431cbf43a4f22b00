/-! WHO LOOKS AHEAD PUTS BACK: the reference's slot 0 -/
def qfIS : Nat → Nat → Bool := fun o k => !(Nat.beq o 186) || (Nat.ble 5 k && Nat.ble k 251)
def qfJS : Nat → Nat → Bool := fun o _ => !(Nat.beq o 187)
def qfIU : Nat → Nat → Bool := fun o k => !(Nat.beq o 186) || Nat.ble 252 k
def qfJU : Nat → Nat → Bool := fun o _ => !(Nat.beq o 187)
def PB (I : tI) : Prop := ∃ P, P ≤ 5 ∧ I 186 2 = Int32.ofNat P
section OB
variable {N N' : Nat} {I I1 I2 I3 : tI} {J J1 J2 J3 : tJ} {u u' : Unit}
theorem PB_frS (h : frO qfIS qfJS I I1 J J1) (hb : PB I) : PB I1 := by
  obtain ⟨P, h1, h2⟩ := hb
  exact ⟨P, h1, (h.1 186 2 rfl).trans h2⟩
theorem PB_frU (h : frO qfIU qfJU I I1 J J1) (hb : PB I) : PB I1 := by
  obtain ⟨P, h1, h2⟩ := hb
  exact ⟨P, h1, (h.1 186 2 rfl).trans h2⟩
theorem ix3 {x p : Nat} (hx : x + p < 2147483648) : (Int32.ofNat x + Int32.ofNat p).toNatClampNeg = x + p := by
  rw [oi_add, oi_nat hx]
theorem keep_l {x0 : Nat} (hx : 252 ≤ x0) (hx2 : x0 ≤ 4000) : ∀ (k p : Nat) {I : tI} {J : tJ} {Y : Int32 × Int32 × tI × tJ}, p ≤ 252 → f296_185_l2 N k I J (Int32.ofNat x0) (Int32.ofNat p) = some Y → Y.2.2.2 = J ∧ (∀ o i, ¬ (o = 186 ∧ x0 + p ≤ i ∧ i < x0 + 252) → Y.2.2.1 o i = I o i) ∧ ∀ i, p ≤ i → i < 252 → Y.2.2.1 186 (x0 + i) = I 186 i
  | 0, _, _, _, _, _, h => by cases h
  | k + 1, p, I, J, Y, hp, h => by
    simp only [f296_185_l2] at h
    rw [show xcmp .ge (Int32.ofNat p) 252 = decide (252 ≤ p) from oi_ge (q := 252) (by omega) (by omega)] at h
    by_cases e : 252 ≤ p
    · rw [decide_eq_true e, cond_true] at h
      cases h
      exact ⟨rfl, fun _ _ _ => rfl, fun i h1 h2 => absurd h1 (by omega)⟩
    · rw [decide_eq_false e, cond_false, ix3 (by omega), oi_nat (by omega), oi_suc (by omega)] at h
      obtain ⟨h1, h2, h3⟩ := keep_l hx hx2 k (p + 1) (by omega) h
      refine ⟨h1, fun o i hn => ?_, fun i h4 h5 => ?_⟩
      · rw [h2 o i (fun q => hn ⟨q.1, by omega, q.2.2⟩), tup_ne (fun q => hn ⟨q.1, by omega, by omega⟩)]
      · by_cases e2 : i = p
        · rw [h2 186 (x0 + i) (fun q => by omega), e2, tup_eq]
        · rw [h3 i (by omega) h5, tup_ne (by omega)]
theorem keep_ok {x0 : Nat} (hx : 252 ≤ x0) (hx2 : x0 ≤ 4000) (h : f296_185 N I J (Int32.ofNat x0) = some (u, I1, J1)) : J1 = J ∧ (∀ o i, ¬ (o = 186 ∧ x0 ≤ i ∧ i < x0 + 252) → I1 o i = I o i) ∧ ∀ i, i < 252 → I1 186 (x0 + i) = I 186 i := by
  unfold f296_185 at h
  cases e : f296_185_l2 N N I J (Int32.ofNat x0) 0 with
  | none => rw [e] at h; cases h
  | some Y =>
  obtain ⟨h1, h2, h3⟩ := keep_l hx hx2 N 0 (by omega) e
  obtain ⟨y1, y2, I4, J4⟩ := Y
  rw [e] at h
  dsimp only at h h1 h2 h3
  cases h
  exact ⟨h1, h2, fun i hi => h3 i (by omega) hi⟩
theorem rest_l {x0 : Nat} (hx : 252 ≤ x0) (hx2 : x0 ≤ 4000) : ∀ (k p : Nat) {I : tI} {J : tJ} {Y : Int32 × Int32 × tI × tJ}, p ≤ 252 → f297_185_l2 N k I J (Int32.ofNat x0) (Int32.ofNat p) = some Y → Y.2.2.2 = J ∧ (∀ o i, ¬ (o = 186 ∧ p ≤ i ∧ i < 252) → Y.2.2.1 o i = I o i) ∧ ∀ i, p ≤ i → i < 252 → Y.2.2.1 186 i = I 186 (x0 + i)
  | 0, _, _, _, _, _, h => by cases h
  | k + 1, p, I, J, Y, hp, h => by
    simp only [f297_185_l2] at h
    rw [show xcmp .ge (Int32.ofNat p) 252 = decide (252 ≤ p) from oi_ge (q := 252) (by omega) (by omega)] at h
    by_cases e : 252 ≤ p
    · rw [decide_eq_true e, cond_true] at h
      cases h
      exact ⟨rfl, fun _ _ _ => rfl, fun i h1 h2 => absurd h1 (by omega)⟩
    · rw [decide_eq_false e, cond_false, ix3 (by omega), oi_nat (by omega), oi_suc (by omega)] at h
      obtain ⟨h1, h2, h3⟩ := rest_l hx hx2 k (p + 1) (by omega) h
      refine ⟨h1, fun o i hn => ?_, fun i h4 h5 => ?_⟩
      · rw [h2 o i (fun q => hn ⟨q.1, by omega, q.2.2⟩), tup_ne (fun q => hn ⟨q.1, by omega, by omega⟩)]
      · by_cases e2 : i = p
        · rw [h2 186 i (fun q => by omega), e2, tup_eq]
        · rw [h3 i (by omega) h5, tup_ne (by omega)]
theorem rest_ok {x0 : Nat} (hx : 252 ≤ x0) (hx2 : x0 ≤ 4000) (h : f297_185 N I J (Int32.ofNat x0) = some (u, I1, J1)) : J1 = J ∧ (∀ o i, ¬ (o = 186 ∧ i < 252) → I1 o i = I o i) ∧ ∀ i, i < 252 → I1 186 i = I 186 (x0 + i) := by
  unfold f297_185 at h
  cases e : f297_185_l2 N N I J (Int32.ofNat x0) 0 with
  | none => rw [e] at h; cases h
  | some Y =>
  obtain ⟨h1, h2, h3⟩ := rest_l hx hx2 N 0 (by omega) e
  obtain ⟨y1, y2, I4, J4⟩ := Y
  rw [e] at h
  dsimp only at h h1 h2 h3
  cases h
  exact ⟨h1, fun o i hn => h2 o i (fun q => hn ⟨q.1, q.2.2⟩), fun i hi => h3 i (by omega) hi⟩
theorem PB_keep (hb : PB I) (h : f296_185 N I J 3720 = some (u, I1, J1)) : PB I1 := by
  obtain ⟨P, h1, h2⟩ := hb
  exact ⟨P, h1, ((keep_ok (x0 := 3720) (by omega) (by omega) h).2.1 186 2 (by omega)).trans h2⟩
theorem CC_seg (h1 : f296_185 N I J 3720 = some (u, I1, J1)) (h2 : frO qfIS qfJS I1 I2 J1 J2) (h3 : f297_185 N' I2 J2 3720 = some (u', I3, J3)) : frO qfIU qfJU I I3 J J3 := by
  obtain ⟨a1, a2, a3⟩ := keep_ok (x0 := 3720) (by omega) (by omega) h1
  obtain ⟨b1, b2, b3⟩ := rest_ok (x0 := 3720) (by omega) (by omega) h3
  refine ⟨fun o k hk => ?_, fun o k hk => ?_⟩
  · have h : o = 186 ∧ k < 252 := by
      unfold qfIU at hk
      simp only [Bool.or_eq_false_iff, Bool.not_eq_false'] at hk
      exact ⟨Nat.eq_of_beq_eq_true hk.1, by
        have := hk.2
        by_cases q : 252 ≤ k
        · rw [Nat.ble_eq_true_of_le q] at this
          cases this
        · omega⟩
    obtain ⟨rfl, hk2⟩ := h
    rw [b3 k hk2, h2.1 186 (3720 + k) ?_, a3 k hk2]
    unfold qfIS
    rw [show Nat.ble (3720 + k) 251 = false from by
      cases q : Nat.ble (3720 + k) 251 with
      | false => rfl
      | true => exact absurd (Nat.le_of_ble_eq_true q) (by omega), Bool.and_false]
    rfl
  · rw [b1, h2.2 o k hk, a1]
end OB
set_option maxRecDepth 100000 in
theorem f251_frS {I : tI} {J : tJ} {a0 : Int32} {v : Int32} {I1 : tI} {J1 : tJ} (hb : PB I) (hq : f251 I J a0 = (v, I1, J1)) : frO qfIS qfJS I I1 J J1 := by
  unfold f251 at hq
  have f0 : frO qfIS qfJS I I J J := fO_refl
  cases hq
  exact f0
set_option maxRecDepth 100000 in
theorem f253_185_frS {I : tI} {J : tJ} {a0 : Int32} {a1 : Int32} {v : Int32} {I1 : tI} {J1 : tJ} (hb : PB I) (hq : f253_185 I J a0 a1 = (v, I1, J1)) : frO qfIS qfJS I I1 J J1 := by
  unfold f253_185 at hq
  have f0 : frO qfIS qfJS I I J J := fO_refl
  rcases bsp hq with ⟨-, hq⟩ | ⟨-, hq⟩
  ·
    cases hq
    exact f0
  ·
    rcases bsp hq with ⟨-, hq⟩ | ⟨-, hq⟩
    ·
      cases hq
      exact f0
    ·
      rcases bsp hq with ⟨-, hq⟩ | ⟨-, hq⟩
      ·
        cases hq
        exact f0
      ·
        rcases bsp hq with ⟨-, hq⟩ | ⟨-, hq⟩
        ·
          cases hq
          exact f0
        ·
          cases hq
          exact f0
set_option maxRecDepth 100000 in
theorem f262_185_frS {I : tI} {J : tJ} {a0 : Int32} {v : Int32} {I1 : tI} {J1 : tJ} (hb : PB I) (hq : f262_185 I J a0 = (v, I1, J1)) : frO qfIS qfJS I I1 J J1 := by
  unfold f262_185 at hq
  have f0 : frO qfIS qfJS I I J J := fO_refl
  rcases bsp hq with ⟨-, hq⟩ | ⟨-, hq⟩
  ·
    cases hq
    exact f0
  ·
    cases hq
    exact f0
set_option maxRecDepth 100000 in
theorem f282_185_j47_frS {I : tI} {J : tJ} {x1 : Int32} {x3 : Int32} {s0 : Int32} {s1 : Int32} {v : Int32} {I1 : tI} {J1 : tJ} (hb : PB I) (hq : f282_185_j47 I J x1 x3 s0 s1 = (v, I1, J1)) : frO qfIS qfJS I I1 J J1 := by
  unfold f282_185_j47 at hq
  have f0 : frO qfIS qfJS I I J J := fO_refl
  generalize e5 : f253_185 I J x3 (s1 + s0) = q5 at hq
  obtain ⟨v5, I5, J5⟩ := q5
  dsimp only at hq
  have f5 := fO_tr f0 (f253_185_frS (PB_frS f0 hb) e5)
  rcases bsp hq with ⟨-, hq⟩ | ⟨-, hq⟩
  ·
    cases hq
    exact f5
  ·
    generalize e7 : f262_185 I5 J5 ((6 * (s1 + s0)) + x3) = q7 at hq
    obtain ⟨v7, I7, J7⟩ := q7
    dsimp only at hq
    have f7 := fO_tr f5 (f262_185_frS (PB_frS f5 hb) e7)
    rcases bsp hq with ⟨-, hq⟩ | ⟨-, hq⟩
    ·
      cases hq
      exact f7
    ·
      cases hq
      exact f7
set_option maxRecDepth 100000 in
theorem f282_185_j22_frS {I : tI} {J : tJ} {x1 : Int32} {x2 : Int32} {s0 : Int32} {s1 : Int32} {v : Int32} {I1 : tI} {J1 : tJ} (hb : PB I) (hq : f282_185_j22 I J x1 x2 s0 s1 = (v, I1, J1)) : frO qfIS qfJS I I1 J J1 := by
  unfold f282_185_j22 at hq
  have f0 : frO qfIS qfJS I I J J := fO_refl
  rcases bsp hq with ⟨-, hq⟩ | ⟨-, hq⟩
  ·
    rcases bsp hq with ⟨-, hq⟩ | ⟨-, hq⟩
    ·
      exact fO_tr f0 (f282_185_j47_frS (PB_frS f0 hb) hq)
    ·
      exact fO_tr f0 (f282_185_j47_frS (PB_frS f0 hb) hq)
  ·
    exact fO_tr f0 (f282_185_j47_frS (PB_frS f0 hb) hq)
set_option maxRecDepth 100000 in
theorem f282_185_frS {I : tI} {J : tJ} {a0 : Int32} {a1 : Int32} {v : Int32} {I1 : tI} {J1 : tJ} (hb : PB I) (hq : f282_185 I J a0 a1 = (v, I1, J1)) : frO qfIS qfJS I I1 J J1 := by
  unfold f282_185 at hq
  have f0 : frO qfIS qfJS I I J J := fO_refl
  rcases bsp hq with ⟨-, hq⟩ | ⟨-, hq⟩
  ·
    rcases bsp hq with ⟨-, hq⟩ | ⟨-, hq⟩
    ·
      exact fO_tr f0 (f282_185_j22_frS (PB_frS f0 hb) hq)
    ·
      exact fO_tr f0 (f282_185_j22_frS (PB_frS f0 hb) hq)
  ·
    exact fO_tr f0 (f282_185_j22_frS (PB_frS f0 hb) hq)
set_option maxRecDepth 100000 in
theorem f260_185_frS {I : tI} {J : tJ} {a0 : Int32} {a1 : Int32} {v : Int32} {I1 : tI} {J1 : tJ} (hb : PB I) (hq : f260_185 I J a0 a1 = (v, I1, J1)) : frO qfIS qfJS I I1 J J1 := by
  unfold f260_185 at hq
  have f0 : frO qfIS qfJS I I J J := fO_refl
  generalize e1 : f251 I J a0 = q1 at hq
  obtain ⟨v1, I1, J1⟩ := q1
  dsimp only at hq
  have f1 := fO_tr f0 (f251_frS (PB_frS f0 hb) e1)
  cases hq
  exact f1
set_option maxRecDepth 100000 in
theorem f261_185_frS {I : tI} {J : tJ} {a0 : Int32} {v : Int32} {I1 : tI} {J1 : tJ} (hb : PB I) (hq : f261_185 I J a0 = (v, I1, J1)) : frO qfIS qfJS I I1 J J1 := by
  unfold f261_185 at hq
  have f0 : frO qfIS qfJS I I J J := fO_refl
  generalize e1 : f260_185 I J a0 4 = q1 at hq
  obtain ⟨v1, I1, J1⟩ := q1
  dsimp only at hq
  have f1 := fO_tr f0 (f260_185_frS (PB_frS f0 hb) e1)
  rcases bsp hq with ⟨-, hq⟩ | ⟨-, hq⟩
  ·
    cases hq
    exact f1
  ·
    cases hq
    exact f1
set_option maxRecDepth 100000 in
theorem f264_185_l2_frS {N : Nat} : ∀ (k : Nat) {I : tI} {J : tJ} {x1 : Int32} {x2 : Int32} {kx : Nat} {y1 : Int32} {y2 : Int32} {I1 : tI} {J1 : tJ}, PB I → f264_185_l2 N k I J x1 x2 = some (kx, y1, y2, I1, J1) → frO qfIS qfJS I I1 J J1
  | 0, _, _, _, _, _, _, _, _, _, hb, hq => by cases hq
  | k + 1, I, J, x1, x2, kx, y1, y2, I1, J1, hb, hq => by
    unfold f264_185_l2 at hq
    have f0 : frO qfIS qfJS I I J J := fO_refl
    rcases bsp hq with ⟨-, hq⟩ | ⟨-, hq⟩
    ·
      cases hq
      exact f0
    ·
      generalize e2 : f261_185 I J x2 = q2 at hq
      obtain ⟨v2, I2, J2⟩ := q2
      dsimp only at hq
      have f2 := fO_tr f0 (f261_185_frS (PB_frS f0 hb) e2)
      rcases bsp hq with ⟨-, hq⟩ | ⟨-, hq⟩
      ·
        exact fO_tr f2 (f264_185_l2_frS k (PB_frS f2 hb) hq)
      ·
        generalize e4 : f260_185 I2 J2 x2 5 = q4 at hq
        obtain ⟨v4, I4, J4⟩ := q4
        dsimp only at hq
        have f4 := fO_tr f2 (f260_185_frS (PB_frS f2 hb) e4)
        rcases bsp hq with ⟨-, hq⟩ | ⟨-, hq⟩
        ·
          exact fO_tr f4 (f264_185_l2_frS k (PB_frS f4 hb) hq)
        ·
          cases hq
          exact f4
set_option maxRecDepth 100000 in
theorem f264_185_frS {N : Nat} {I : tI} {J : tJ} {a0 : Int32} {v : Int32} {I1 : tI} {J1 : tJ} (hb : PB I) (hq : f264_185 N I J a0 = some (v, I1, J1)) : frO qfIS qfJS I I1 J J1 := by
  unfold f264_185 at hq
  have f0 : frO qfIS qfJS I I J J := fO_refl
  cases e1 : f264_185_l2 N N I J a0 0 with
  | none => rw [e1] at hq; cases hq
  | some Y =>
  obtain ⟨k1, y1_1, y1_2, I1, J1⟩ := Y
  rw [e1] at hq
  dsimp only at hq
  have f1 := fO_tr f0 (f264_185_l2_frS N (PB_frS f0 hb) e1)
  rcases bsp hq with ⟨-, hq⟩ | ⟨-, hq⟩
  ·
    cases hq
    exact f1
  ·
    cases hq
    exact f1
section OH
variable {N N' : Nat} {I I1 I2 I3 : tI} {J J1 J2 J3 : tJ} {u u' : Unit}
theorem qs_in {k : Nat} (h1 : 5 ≤ k) (h2 : k ≤ 251) : qfIS 186 k = true := by
  unfold qfIS
  rw [Nat.ble_eq_true_of_le h1, Nat.ble_eq_true_of_le h2]
  rfl
theorem f283_185_j61_frS {p : Nat} {x3 : Int32} (hp : p < 5) (hb : PB I) (hq : f283_185_j61 N I J (Int32.ofNat (40 + 14 * p)) x3 = some (u, I1, J1)) : frO qfIS qfJS I I1 J J1 := by
  have e4 : (Int32.ofNat (40 + 14 * p) + 4).toNatClampNeg = 40 + 14 * p + 4 := ix3 (p := 4) (by omega)
  have e5 : (Int32.ofNat (40 + 14 * p) + 5).toNatClampNeg = 40 + 14 * p + 5 := ix3 (p := 5) (by omega)
  unfold f283_185_j61 at hq
  rw [e4, e5] at hq
  have f0 : frO qfIS qfJS I I J J := fO_refl
  rcases bsp hq with ⟨-, hq⟩ | ⟨-, hq⟩
  · generalize d1 : f282_185 I J (I 186 (40 + 14 * p + 5)) (I 186 (Int32.ofNat (40 + 14 * p) + 6 + (x3 - x3 / I 186 (Int32.ofNat (40 + 14 * p) + 3).toNatClampNeg * I 186 (Int32.ofNat (40 + 14 * p) + 3).toNatClampNeg)).toNatClampNeg) = q1 at hq
    obtain ⟨v5, I5, J5⟩ := q1
    dsimp only at hq
    have f5 := fO_tr f0 (f282_185_frS hb d1)
    obtain ⟨v6, I6, J6, d6, hq⟩ := obI hq
    have f6 := fO_tr f5 (f264_185_frS (PB_frS f5 hb) d6)
    rcases bsp hq with ⟨-, hq⟩ | ⟨-, hq⟩
    · cases hq
      exact f6
    · cases hq
      exact fO_I f6 (qs_in (by omega) (by omega))
  · rcases bsp hq with ⟨-, hq⟩ | ⟨-, hq⟩
    · cases hq
      exact f0
    · generalize d9 : f262_185 I J (I 186 (Int32.ofNat (40 + 14 * p)).toNatClampNeg) = q9 at hq
      obtain ⟨v9, I9, J9⟩ := q9
      dsimp only at hq
      have f9 := fO_tr f0 (f262_185_frS hb d9)
      rcases bsp hq with ⟨-, hq⟩ | ⟨-, hq⟩
      · cases hq
        exact f9
      · obtain ⟨v11, I11, J11, d11, hq⟩ := obI hq
        have f11 := fO_tr f9 (f264_185_frS (PB_frS f9 hb) d11)
        rcases bsp hq with ⟨-, hq⟩ | ⟨-, hq⟩
        · cases hq
          exact fO_I (fO_I f11 (qs_in (by omega) (by omega))) (qs_in (by omega) (by omega))
        · cases hq
          exact f11
theorem f283_185_frS {p : Nat} (hp : p < 5) (hb : PB I) (hq : f283_185 N I J (Int32.ofNat p) = some (u, I1, J1)) : frO qfIS qfJS I I1 J J1 := by
  unfold f283_185 f251 at hq
  dsimp only at hq
  rw [show (14 : Int32) * Int32.ofNat p = Int32.ofNat (14 * p) from oi_mul (a := 14), show (40 : Int32) + Int32.ofNat (14 * p) = Int32.ofNat (40 + 14 * p) from oi_add (a := 40), show (Int32.ofNat (40 + 14 * p) + 4).toNatClampNeg = 40 + 14 * p + 4 from ix3 (p := 4) (by omega)] at hq
  have f0 : frO qfIS qfJS I I J J := fO_refl
  rcases bsp hq with ⟨-, hq⟩ | ⟨-, hq⟩
  · rcases bsp hq with ⟨-, hq⟩ | ⟨-, hq⟩
    · exact f283_185_j61_frS hp hb hq
    · rcases bsp hq with ⟨-, hq⟩ | ⟨-, hq⟩
      · exact f283_185_j61_frS hp hb hq
      · cases hq
        exact fO_I f0 (qs_in (by omega) (by omega))
  · cases hq
    exact f0
theorem f284_l2_frS : ∀ (k p : Nat) {I : tI} {J : tJ} {Y : Int32 × tI × tJ}, PB I → f284_185_l2 N k I J (Int32.ofNat p) = some Y → p ≤ 5 → frO qfIS qfJS I Y.2.1 J Y.2.2
  | 0, _, _, _, _, _, hq, _ => by cases hq
  | k + 1, p, I, J, Y, hb, hq, hp => by
    obtain ⟨P, hP, h2⟩ := id hb
    simp only [f284_185_l2] at hq
    rw [h2, oi_ge (by omega) (by omega)] at hq
    by_cases e : P ≤ p
    · rw [decide_eq_true e, cond_true] at hq
      cases hq
      exact fO_refl
    · rw [decide_eq_false e, cond_false, oi_suc (by omega)] at hq
      obtain ⟨_, I2, J2, e2, hq⟩ := obU hq
      have f2 := f283_185_frS (by omega) hb e2
      exact fO_tr f2 (f284_l2_frS k (p + 1) (PB_frS f2 hb) hq (by omega))
theorem f284_185_frS (hb : PB I) (hq : f284_185 N I J = some (u, I1, J1)) : frO qfIS qfJS I I1 J J1 := by
  unfold f284_185 at hq
  cases e1 : f284_185_l2 N N I J 0 with
  | none => rw [e1] at hq; cases hq
  | some Y =>
  have f1 := f284_l2_frS N 0 hb e1 (by omega)
  obtain ⟨y1, I2, J2⟩ := Y
  rw [e1] at hq
  dsimp only at hq f1
  cases hq
  exact fO_I f1 rfl
end OH
set_option maxRecDepth 100000 in
theorem f285_185_l2_frS {N : Nat} : ∀ (k : Nat) {I : tI} {J : tJ} {x1 : Int32} {x2 : Int32} {y1 : Int32} {y2 : Int32} {I1 : tI} {J1 : tJ}, PB I → f285_185_l2 N k I J x1 x2 = some (y1, y2, I1, J1) → frO qfIS qfJS I I1 J J1
  | 0, _, _, _, _, _, _, _, _, hb, hq => by cases hq
  | k + 1, I, J, x1, x2, y1, y2, I1, J1, hb, hq => by
    unfold f285_185_l2 at hq
    have f0 : frO qfIS qfJS I I J J := fO_refl
    rcases bsp hq with ⟨-, hq⟩ | ⟨-, hq⟩
    ·
      cases hq
      exact f0
    ·
      obtain ⟨_, I2, J2, e2, hq⟩ := obU hq
      have f2 := fO_tr f0 (f284_185_frS (PB_frS f0 hb) e2)
      exact fO_tr f2 (f285_185_l2_frS k (PB_frS f2 hb) hq)
set_option maxRecDepth 100000 in
theorem f285_185_frS {N : Nat} {I : tI} {J : tJ} {a0 : Int32} {v : Unit} {I1 : tI} {J1 : tJ} (hb : PB I) (hq : f285_185 N I J a0 = some (v, I1, J1)) : frO qfIS qfJS I I1 J J1 := by
  unfold f285_185 at hq
  have f0 : frO qfIS qfJS I I J J := fO_refl
  cases e1 : f285_185_l2 N N I J a0 0 with
  | none => rw [e1] at hq; cases hq
  | some Y =>
  obtain ⟨y1_1, y1_2, I1, J1⟩ := Y
  rw [e1] at hq
  dsimp only at hq
  have f1 := fO_tr f0 (f285_185_l2_frS N (PB_frS f0 hb) e1)
  cases hq
  exact f1
set_option maxRecDepth 100000 in
theorem f263_frS {I : tI} {J : tJ} {a0 : Int32} {v : Int32} {I1 : tI} {J1 : tJ} (hb : PB I) (hq : f263 I J a0 = (v, I1, J1)) : frO qfIS qfJS I I1 J J1 := by
  unfold f263 at hq
  have f0 : frO qfIS qfJS I I J J := fO_refl
  cases hq
  exact f0
set_option maxRecDepth 100000 in
theorem f252_frS {I : tI} {J : tJ} {a0 : Int32} {v : Int32} {I1 : tI} {J1 : tJ} (hb : PB I) (hq : f252 I J a0 = (v, I1, J1)) : frO qfIS qfJS I I1 J J1 := by
  unfold f252 at hq
  have f0 : frO qfIS qfJS I I J J := fO_refl
  cases hq
  exact f0
set_option maxRecDepth 100000 in
theorem f265_185_l17_frS {N : Nat} : ∀ (k : Nat) {I : tI} {J : tJ} {x3 : Int32} {kx : Nat} {y3 : Int32} {I1 : tI} {J1 : tJ}, PB I → f265_185_l17 N k I J x3 = some (kx, y3, I1, J1) → frO qfIS qfJS I I1 J J1
  | 0, _, _, _, _, _, _, _, hb, hq => by cases hq
  | k + 1, I, J, x3, kx, y3, I1, J1, hb, hq => by
    unfold f265_185_l17 at hq
    have f0 : frO qfIS qfJS I I J J := fO_refl
    rcases bsp hq with ⟨-, hq⟩ | ⟨-, hq⟩
    ·
      cases hq
      exact f0
    ·
      generalize e13 : f261_185 I J x3 = q13 at hq
      obtain ⟨v13, I13, J13⟩ := q13
      dsimp only at hq
      have f13 := fO_tr f0 (f261_185_frS (PB_frS f0 hb) e13)
      rcases bsp hq with ⟨-, hq⟩ | ⟨-, hq⟩
      ·
        exact fO_tr f13 (f265_185_l17_frS k (PB_frS f13 hb) hq)
      ·
        cases hq
        exact f13
set_option maxRecDepth 100000 in
theorem f265_185_frS {N : Nat} {I : tI} {J : tJ} {a0 : Int32} {v : Int32} {I1 : tI} {J1 : tJ} (hb : PB I) (hq : f265_185 N I J a0 = some (v, I1, J1)) : frO qfIS qfJS I I1 J J1 := by
  unfold f265_185 at hq
  have f0 : frO qfIS qfJS I I J J := fO_refl
  generalize e1 : f252 I J a0 = q1 at hq
  obtain ⟨v1, I1, J1⟩ := q1
  dsimp only at hq
  have f1 := fO_tr f0 (f252_frS (PB_frS f0 hb) e1)
  rcases bsp hq with ⟨-, hq⟩ | ⟨-, hq⟩
  ·
    generalize e3 : f261_185 I1 J1 (I1 186 ((v1 + 1)).toNatClampNeg) = q3 at hq
    obtain ⟨v3, I3, J3⟩ := q3
    dsimp only at hq
    have f3 := fO_tr f1 (f261_185_frS (PB_frS f1 hb) e3)
    rcases bsp hq with ⟨-, hq⟩ | ⟨-, hq⟩
    ·
      generalize e5 : f260_185 I3 J3 (I3 186 ((v1 + 1)).toNatClampNeg) 5 = q5 at hq
      obtain ⟨v5, I5, J5⟩ := q5
      dsimp only at hq
      have f5 := fO_tr f3 (f260_185_frS (PB_frS f3 hb) e5)
      rcases bsp hq with ⟨-, hq⟩ | ⟨-, hq⟩
      ·
        generalize e7 : f260_185 I5 J5 (I5 186 ((v1 + 2)).toNatClampNeg) 5 = q7 at hq
        obtain ⟨v7, I7, J7⟩ := q7
        dsimp only at hq
        have f7 := fO_tr f5 (f260_185_frS (PB_frS f5 hb) e7)
        generalize e8 : f261_185 I7 J7 (I7 186 ((v1 + 2)).toNatClampNeg) = q8 at hq
        obtain ⟨v8, I8, J8⟩ := q8
        dsimp only at hq
        have f8 := fO_tr f7 (f261_185_frS (PB_frS f7 hb) e8)
        rcases bsp hq with ⟨-, hq⟩ | ⟨-, hq⟩
        ·
          cases hq
          exact f8
        ·
          rcases bsp hq with ⟨-, hq⟩ | ⟨-, hq⟩
          ·
            cases hq
            exact f8
          ·
            cases hq
            exact f8
      ·
        rcases bsp hq with ⟨-, hq⟩ | ⟨-, hq⟩
        ·
          cases hq
          exact f5
        ·
          cases hq
          exact f5
    ·
      cases hq
      exact f3
  ·
    cases e12 : f265_185_l17 N N I1 J1 0 with
    | none => rw [e12] at hq; cases hq
    | some Y =>
    obtain ⟨k12, y12_3, I12, J12⟩ := Y
    rw [e12] at hq
    dsimp only at hq
    have f12 := fO_tr f1 (f265_185_l17_frS N (PB_frS f1 hb) e12)
    rcases bsp hq with ⟨-, hq⟩ | ⟨-, hq⟩
    ·
      cases hq
      exact f12
    ·
      cases hq
      exact f12
set_option maxRecDepth 100000 in
theorem f266_185_l4_frS {N : Nat} : ∀ (k : Nat) {I : tI} {J : tJ} {x1 : Int32} {x2 : Int32} {y1 : Int32} {y2 : Int32} {I1 : tI} {J1 : tJ}, PB I → f266_185_l4 N k I J x1 x2 = some (y1, y2, I1, J1) → frO qfIS qfJS I I1 J J1
  | 0, _, _, _, _, _, _, _, _, hb, hq => by cases hq
  | k + 1, I, J, x1, x2, y1, y2, I1, J1, hb, hq => by
    unfold f266_185_l4 at hq
    have f0 : frO qfIS qfJS I I J J := fO_refl
    rcases bsp hq with ⟨-, hq⟩ | ⟨-, hq⟩
    ·
      cases hq
      exact f0
    ·
      obtain ⟨v2, I2, J2, e2, hq⟩ := obI hq
      have f2 := fO_tr f0 (f265_185_frS (PB_frS f0 hb) e2)
      rcases bsp hq with ⟨-, hq⟩ | ⟨-, hq⟩
      ·
        exact fO_tr f2 (f266_185_l4_frS k (PB_frS f2 hb) hq)
      ·
        exact fO_tr f2 (f266_185_l4_frS k (PB_frS f2 hb) hq)
set_option maxRecDepth 100000 in
theorem f266_185_frS {N : Nat} {I : tI} {J : tJ} {v : Int32} {I1 : tI} {J1 : tJ} (hb : PB I) (hq : f266_185 N I J = some (v, I1, J1)) : frO qfIS qfJS I I1 J J1 := by
  unfold f266_185 at hq
  have f0 : frO qfIS qfJS I I J J := fO_refl
  cases e1 : f266_185_l4 N N I J 0 0 with
  | none => rw [e1] at hq; cases hq
  | some Y =>
  obtain ⟨y1_1, y1_2, I1, J1⟩ := Y
  rw [e1] at hq
  dsimp only at hq
  have f1 := fO_tr f0 (f266_185_l4_frS N (PB_frS f0 hb) e1)
  cases hq
  exact f1
set_option maxRecDepth 100000 in
theorem f305_185_l9_frS {N : Nat} : ∀ (k : Nat) {I : tI} {J : tJ} {x1 : Int32} {x2 : Int32} {y1 : Int32} {y2 : Int32} {I1 : tI} {J1 : tJ}, PB I → f305_185_l9 N k I J x1 x2 = some (y1, y2, I1, J1) → frO qfIS qfJS I I1 J J1
  | 0, _, _, _, _, _, _, _, _, hb, hq => by cases hq
  | k + 1, I, J, x1, x2, y1, y2, I1, J1, hb, hq => by
    unfold f305_185_l9 at hq
    have f0 : frO qfIS qfJS I I J J := fO_refl
    rcases bsp hq with ⟨-, hq⟩ | ⟨-, hq⟩
    ·
      cases hq
      exact f0
    ·
      obtain ⟨_, I3, J3, e3, hq⟩ := obU hq
      have f3 := fO_tr f0 (f284_185_frS (PB_frS f0 hb) e3)
      obtain ⟨v4, I4, J4, e4, hq⟩ := obI hq
      have f4 := fO_tr f3 (f266_185_frS (PB_frS f3 hb) e4)
      exact fO_tr (fO_I f4 rfl) (f305_185_l9_frS k (PB_frS (fO_I f4 rfl) hb) hq)
set_option maxRecDepth 100000 in
theorem f311_185_l25_frS {N : Nat} : ∀ (k : Nat) {I : tI} {J : tJ} {x1 : Int32} {x2 : Int32} {x3 : Int32} {y1 : Int32} {y2 : Int32} {y3 : Int32} {I1 : tI} {J1 : tJ}, PB I → f311_185_l25 N k I J x1 x2 x3 = some (y1, y2, y3, I1, J1) → frO qfIS qfJS I I1 J J1
  | 0, _, _, _, _, _, _, _, _, _, _, hb, hq => by cases hq
  | k + 1, I, J, x1, x2, x3, y1, y2, y3, I1, J1, hb, hq => by
    unfold f311_185_l25 at hq
    have f0 : frO qfIS qfJS I I J J := fO_refl
    rcases bsp hq with ⟨-, hq⟩ | ⟨-, hq⟩
    ·
      cases hq
      exact f0
    ·
      obtain ⟨_, I5, J5, e5, hq⟩ := obU hq
      have f5 := fO_tr f0 (f284_185_frS (PB_frS f0 hb) e5)
      generalize e6 : f261_185 I5 J5 x1 = q6 at hq
      obtain ⟨v6, I6, J6⟩ := q6
      dsimp only at hq
      have f6 := fO_tr f5 (f261_185_frS (PB_frS f5 hb) e6)
      rcases bsp hq with ⟨-, hq⟩ | ⟨-, hq⟩
      ·
        exact fO_tr f6 (f311_185_l25_frS k (PB_frS f6 hb) hq)
      ·
        exact fO_tr f6 (f311_185_l25_frS k (PB_frS f6 hb) hq)
set_option maxRecDepth 100000 in
theorem f312_185_l2_frS {N : Nat} : ∀ (k : Nat) {I : tI} {J : tJ} {x1 : Int32} {x2 : Int32} {kx : Nat} {y1 : Int32} {y2 : Int32} {I1 : tI} {J1 : tJ}, PB I → f312_185_l2 N k I J x1 x2 = some (kx, y1, y2, I1, J1) → frO qfIS qfJS I I1 J J1
  | 0, _, _, _, _, _, _, _, _, _, hb, hq => by cases hq
  | k + 1, I, J, x1, x2, kx, y1, y2, I1, J1, hb, hq => by
    unfold f312_185_l2 at hq
    have f0 : frO qfIS qfJS I I J J := fO_refl
    rcases bsp hq with ⟨-, hq⟩ | ⟨-, hq⟩
    ·
      cases hq
      exact f0
    ·
      generalize e2 : f251 I J x2 = q2 at hq
      obtain ⟨v2, I2, J2⟩ := q2
      dsimp only at hq
      have f2 := fO_tr f0 (f251_frS (PB_frS f0 hb) e2)
      rcases bsp hq with ⟨-, hq⟩ | ⟨-, hq⟩
      ·
        cases hq
        exact f2
      ·
        generalize e4 : f261_185 I2 J2 x2 = q4 at hq
        obtain ⟨v4, I4, J4⟩ := q4
        dsimp only at hq
        have f4 := fO_tr f2 (f261_185_frS (PB_frS f2 hb) e4)
        rcases bsp hq with ⟨-, hq⟩ | ⟨-, hq⟩
        ·
          exact fO_tr f4 (f312_185_l2_frS k (PB_frS f4 hb) hq)
        ·
          rcases bsp hq with ⟨-, hq⟩ | ⟨-, hq⟩
          ·
            exact fO_tr f4 (f312_185_l2_frS k (PB_frS f4 hb) hq)
          ·
            cases hq
            exact f4
set_option maxRecDepth 100000 in
theorem f312_185_frS {N : Nat} {I : tI} {J : tJ} {a0 : Int32} {v : Int32} {I1 : tI} {J1 : tJ} (hb : PB I) (hq : f312_185 N I J a0 = some (v, I1, J1)) : frO qfIS qfJS I I1 J J1 := by
  unfold f312_185 at hq
  have f0 : frO qfIS qfJS I I J J := fO_refl
  cases e1 : f312_185_l2 N N I J a0 0 with
  | none => rw [e1] at hq; cases hq
  | some Y =>
  obtain ⟨k1, y1_1, y1_2, I1, J1⟩ := Y
  rw [e1] at hq
  dsimp only at hq
  have f1 := fO_tr f0 (f312_185_l2_frS N (PB_frS f0 hb) e1)
  rcases bsp hq with ⟨-, hq⟩ | ⟨-, hq⟩
  ·
    cases hq
    exact f1
  ·
    cases hq
    exact f1
set_option maxRecDepth 100000 in
theorem f313_185_l11_frS {N : Nat} : ∀ (k : Nat) {I : tI} {J : tJ} {x1 : Int32} {x2 : Int32} {y1 : Int32} {y2 : Int32} {I1 : tI} {J1 : tJ}, PB I → f313_185_l11 N k I J x1 x2 = some (y1, y2, I1, J1) → frO qfIS qfJS I I1 J J1
  | 0, _, _, _, _, _, _, _, _, hb, hq => by cases hq
  | k + 1, I, J, x1, x2, y1, y2, I1, J1, hb, hq => by
    unfold f313_185_l11 at hq
    have f0 : frO qfIS qfJS I I J J := fO_refl
    rcases bsp hq with ⟨-, hq⟩ | ⟨-, hq⟩
    ·
      cases hq
      exact f0
    ·
      rcases bsp hq with ⟨-, hq⟩ | ⟨-, hq⟩
      ·
        cases hq
        exact f0
      ·
        obtain ⟨_, I4, J4, e4, hq⟩ := obU hq
        have f4 := fO_tr f0 (f284_185_frS (PB_frS f0 hb) e4)
        obtain ⟨v5, I5, J5, e5, hq⟩ := obI hq
        have f5 := fO_tr f4 (f312_185_frS (PB_frS f4 hb) e5)
        rcases bsp hq with ⟨-, hq⟩ | ⟨-, hq⟩
        ·
          exact fO_tr f5 (f313_185_l11_frS k (PB_frS f5 hb) hq)
        ·
          exact fO_tr f5 (f313_185_l11_frS k (PB_frS f5 hb) hq)
set_option maxRecDepth 100000 in
theorem f314_185_l34_frS {N : Nat} : ∀ (k : Nat) {I : tI} {J : tJ} {x1 : Int32} {x2 : Int32} {x3 : Int32} {x4 : Int32} {y1 : Int32} {y2 : Int32} {y3 : Int32} {y4 : Int32} {I1 : tI} {J1 : tJ}, PB I → f314_185_l34 N k I J x1 x2 x3 x4 = some (y1, y2, y3, y4, I1, J1) → frO qfIS qfJS I I1 J J1
  | 0, _, _, _, _, _, _, _, _, _, _, _, _, hb, hq => by cases hq
  | k + 1, I, J, x1, x2, x3, x4, y1, y2, y3, y4, I1, J1, hb, hq => by
    unfold f314_185_l34 at hq
    have f0 : frO qfIS qfJS I I J J := fO_refl
    rcases bsp hq with ⟨-, hq⟩ | ⟨-, hq⟩
    ·
      cases hq
      exact f0
    ·
      generalize e8 : f261_185 I J x1 = q8 at hq
      obtain ⟨v8, I8, J8⟩ := q8
      dsimp only at hq
      have f8 := fO_tr f0 (f261_185_frS (PB_frS f0 hb) e8)
      rcases bsp hq with ⟨-, hq⟩ | ⟨-, hq⟩
      ·
        obtain ⟨_, I10, J10, e10, hq⟩ := obU hq
        have f10 := fO_tr f8 (f284_185_frS (PB_frS f8 hb) e10)
        rcases bsp hq with ⟨-, hq⟩ | ⟨-, hq⟩
        ·
          exact fO_tr f10 (f314_185_l34_frS k (PB_frS f10 hb) hq)
        ·
          generalize e12 : f261_185 I10 J10 x1 = q12 at hq
          obtain ⟨v12, I12, J12⟩ := q12
          dsimp only at hq
          have f12 := fO_tr f10 (f261_185_frS (PB_frS f10 hb) e12)
          rcases bsp hq with ⟨-, hq⟩ | ⟨-, hq⟩
          ·
            exact fO_tr f12 (f314_185_l34_frS k (PB_frS f12 hb) hq)
          ·
            generalize e14 : f260_185 I12 J12 x1 5 = q14 at hq
            obtain ⟨v14, I14, J14⟩ := q14
            dsimp only at hq
            have f14 := fO_tr f12 (f260_185_frS (PB_frS f12 hb) e14)
            rcases bsp hq with ⟨-, hq⟩ | ⟨-, hq⟩
            ·
              exact fO_tr f14 (f314_185_l34_frS k (PB_frS f14 hb) hq)
            ·
              exact fO_tr f14 (f314_185_l34_frS k (PB_frS f14 hb) hq)
      ·
        generalize e16 : f260_185 I8 J8 x1 5 = q16 at hq
        obtain ⟨v16, I16, J16⟩ := q16
        dsimp only at hq
        have f16 := fO_tr f8 (f260_185_frS (PB_frS f8 hb) e16)
        obtain ⟨_, I17, J17, e17, hq⟩ := obU hq
        have f17 := fO_tr f16 (f284_185_frS (PB_frS f16 hb) e17)
        rcases bsp hq with ⟨-, hq⟩ | ⟨-, hq⟩
        ·
          exact fO_tr f17 (f314_185_l34_frS k (PB_frS f17 hb) hq)
        ·
          generalize e19 : f261_185 I17 J17 x1 = q19 at hq
          obtain ⟨v19, I19, J19⟩ := q19
          dsimp only at hq
          have f19 := fO_tr f17 (f261_185_frS (PB_frS f17 hb) e19)
          rcases bsp hq with ⟨-, hq⟩ | ⟨-, hq⟩
          ·
            exact fO_tr f19 (f314_185_l34_frS k (PB_frS f19 hb) hq)
          ·
            generalize e21 : f260_185 I19 J19 x1 5 = q21 at hq
            obtain ⟨v21, I21, J21⟩ := q21
            dsimp only at hq
            have f21 := fO_tr f19 (f260_185_frS (PB_frS f19 hb) e21)
            rcases bsp hq with ⟨-, hq⟩ | ⟨-, hq⟩
            ·
              exact fO_tr f21 (f314_185_l34_frS k (PB_frS f21 hb) hq)
            ·
              exact fO_tr f21 (f314_185_l34_frS k (PB_frS f21 hb) hq)
set_option maxRecDepth 100000 in
theorem f210_frS {I : tI} {J : tJ} {a0 : Int64} {a1 : Int32} {v : Int64} {I1 : tI} {J1 : tJ} (hb : PB I) (hq : f210 I J a0 a1 = (v, I1, J1)) : frO qfIS qfJS I I1 J J1 := by
  unfold f210 at hq
  have f0 : frO qfIS qfJS I I J J := fO_refl
  rcases bsp hq with ⟨-, hq⟩ | ⟨-, hq⟩
  ·
    rcases bsp hq with ⟨-, hq⟩ | ⟨-, hq⟩
    ·
      rcases bsp hq with ⟨-, hq⟩ | ⟨-, hq⟩
      ·
        cases hq
        exact f0
      ·
        cases hq
        exact f0
    ·
      cases hq
      exact f0
  ·
    cases hq
    exact f0
set_option maxRecDepth 100000 in
theorem f335_185_l75_frS {N : Nat} : ∀ (k : Nat) {I : tI} {J : tJ} {x1 : Int32} {x2 : Int32} {x3 : Int32} {x4 : Int32} {y1 : Int32} {y2 : Int32} {y3 : Int32} {y4 : Int32} {I1 : tI} {J1 : tJ}, PB I → f335_185_l75 N k I J x1 x2 x3 x4 = some (y1, y2, y3, y4, I1, J1) → frO qfIS qfJS I I1 J J1
  | 0, _, _, _, _, _, _, _, _, _, _, _, _, hb, hq => by cases hq
  | k + 1, I, J, x1, x2, x3, x4, y1, y2, y3, y4, I1, J1, hb, hq => by
    unfold f335_185_l75 at hq
    have f0 : frO qfIS qfJS I I J J := fO_refl
    rcases bsp hq with ⟨-, hq⟩ | ⟨-, hq⟩
    ·
      cases hq
      exact f0
    ·
      generalize e13 : f261_185 I J x1 = q13 at hq
      obtain ⟨v13, I13, J13⟩ := q13
      dsimp only at hq
      have f13 := fO_tr f0 (f261_185_frS (PB_frS f0 hb) e13)
      rcases bsp hq with ⟨-, hq⟩ | ⟨-, hq⟩
      ·
        generalize e15 : f210 I13 J13 (-1) (I13 188 (x2).toNatClampNeg) = q15 at hq
        obtain ⟨v15, I15, J15⟩ := q15
        dsimp only at hq
        have f15 := fO_tr f13 (f210_frS (PB_frS f13 hb) e15)
        obtain ⟨_, I16, J16, e16, hq⟩ := obU hq
        have f16 := fO_tr (fO_J (o := 190) f15 rfl) (f284_185_frS (PB_frS f15 hb) e16)
        exact fO_tr f16 (f335_185_l75_frS k (PB_frS f16 hb) hq)
      ·
        generalize e17 : f260_185 I13 J13 x1 5 = q17 at hq
        obtain ⟨v17, I17, J17⟩ := q17
        dsimp only at hq
        have f17 := fO_tr f13 (f260_185_frS (PB_frS f13 hb) e17)
        generalize e18 : f263 I17 J17 v17 = q18 at hq
        obtain ⟨v18, I18, J18⟩ := q18
        dsimp only at hq
        have f18 := fO_tr f17 (f263_frS (PB_frS f17 hb) e18)
        generalize e19 : f210 I18 J18 ((v18).toInt64) (I18 188 (x2).toNatClampNeg) = q19 at hq
        obtain ⟨v19, I19, J19⟩ := q19
        dsimp only at hq
        have f19 := fO_tr f18 (f210_frS (PB_frS f18 hb) e19)
        obtain ⟨_, I20, J20, e20, hq⟩ := obU hq
        have f20 := fO_tr (fO_J (o := 190) f19 rfl) (f284_185_frS (PB_frS f19 hb) e20)
        exact fO_tr f20 (f335_185_l75_frS k (PB_frS f20 hb) hq)
set_option maxRecDepth 100000 in
theorem f254_185_frU {I : tI} {J : tJ} {a0 : Int32} {v : Int32} {I1 : tI} {J1 : tJ} (hb : PB I) (hq : f254_185 I J a0 = (v, I1, J1)) : frO qfIU qfJU I I1 J J1 := by
  unfold f254_185 at hq
  have f0 : frO qfIU qfJU I I J J := fO_refl
  rcases bsp hq with ⟨-, hq⟩ | ⟨-, hq⟩
  ·
    cases hq
    exact f0
  ·
    rcases bsp hq with ⟨-, hq⟩ | ⟨-, hq⟩
    ·
      cases hq
      exact f0
    ·
      cases hq
      exact f0
set_option maxRecDepth 100000 in
theorem f205_185_frU {I : tI} {J : tJ} {a0 : Int32} {v : Int32} {I1 : tI} {J1 : tJ} (hb : PB I) (hq : f205_185 I J a0 = (v, I1, J1)) : frO qfIU qfJU I I1 J J1 := by
  unfold f205_185 at hq
  have f0 : frO qfIU qfJU I I J J := fO_refl
  cases hq
  exact (fO_I f0 rfl)
set_option maxRecDepth 100000 in
theorem f216_frU {I : tI} {J : tJ} {a0 : Int64} {a1 : Int64} {a2 : Int64} {v : Int32} {I1 : tI} {J1 : tJ} (hb : PB I) (hq : f216 I J a0 a1 a2 = (v, I1, J1)) : frO qfIU qfJU I I1 J J1 := by
  unfold f216 at hq
  have f0 : frO qfIU qfJU I I J J := fO_refl
  rcases bsp hq with ⟨-, hq⟩ | ⟨-, hq⟩
  ·
    cases hq
    exact f0
  ·
    rcases bsp hq with ⟨-, hq⟩ | ⟨-, hq⟩
    ·
      cases hq
      exact f0
    ·
      cases hq
      exact f0
set_option maxRecDepth 100000 in
theorem f298_frU {I : tI} {J : tJ} {a0 : Int32} {a1 : Int32} {v : Int32} {I1 : tI} {J1 : tJ} (hb : PB I) (hq : f298 I J a0 a1 = (v, I1, J1)) : frO qfIU qfJU I I1 J J1 := by
  unfold f298 at hq
  have f0 : frO qfIU qfJU I I J J := fO_refl
  generalize e1 : f216 I J ((a0).toInt64) ((a1).toInt64) 200 = q1 at hq
  obtain ⟨v1, I1, J1⟩ := q1
  dsimp only at hq
  have f1 := fO_tr f0 (f216_frU (PB_frU f0 hb) e1)
  cases hq
  exact f1
set_option maxRecDepth 100000 in
theorem f253_185_frU {I : tI} {J : tJ} {a0 : Int32} {a1 : Int32} {v : Int32} {I1 : tI} {J1 : tJ} (hb : PB I) (hq : f253_185 I J a0 a1 = (v, I1, J1)) : frO qfIU qfJU I I1 J J1 := by
  unfold f253_185 at hq
  have f0 : frO qfIU qfJU I I J J := fO_refl
  rcases bsp hq with ⟨-, hq⟩ | ⟨-, hq⟩
  ·
    cases hq
    exact f0
  ·
    rcases bsp hq with ⟨-, hq⟩ | ⟨-, hq⟩
    ·
      cases hq
      exact f0
    ·
      rcases bsp hq with ⟨-, hq⟩ | ⟨-, hq⟩
      ·
        cases hq
        exact f0
      ·
        rcases bsp hq with ⟨-, hq⟩ | ⟨-, hq⟩
        ·
          cases hq
          exact f0
        ·
          cases hq
          exact f0
set_option maxRecDepth 100000 in
theorem f206_185_frU {I : tI} {J : tJ} {a0 : Int32} {v : Int32} {I1 : tI} {J1 : tJ} (hb : PB I) (hq : f206_185 I J a0 = (v, I1, J1)) : frO qfIU qfJU I I1 J J1 := by
  unfold f206_185 at hq
  have f0 : frO qfIU qfJU I I J J := fO_refl
  cases hq
  exact (fO_I f0 rfl)
set_option maxRecDepth 100000 in
theorem f207_185_frU {I : tI} {J : tJ} {a0 : Int32} {v : Int32} {I1 : tI} {J1 : tJ} (hb : PB I) (hq : f207_185 I J a0 = (v, I1, J1)) : frO qfIU qfJU I I1 J J1 := by
  unfold f207_185 at hq
  have f0 : frO qfIU qfJU I I J J := fO_refl
  rcases bsp hq with ⟨-, hq⟩ | ⟨-, hq⟩
  ·
    generalize e2 : f206_185 I J a0 = q2 at hq
    obtain ⟨v2, I2, J2⟩ := q2
    dsimp only at hq
    have f2 := fO_tr f0 (f206_185_frU (PB_frU f0 hb) e2)
    cases hq
    exact f2
  ·
    generalize e3 : f205_185 I J 6 = q3 at hq
    obtain ⟨v3, I3, J3⟩ := q3
    dsimp only at hq
    have f3 := fO_tr f0 (f205_185_frU (PB_frU f0 hb) e3)
    cases hq
    exact f3
set_option maxRecDepth 100000 in
theorem f302_185_frU {N : Nat} {I : tI} {J : tJ} {a0 : Int32} {a1 : Int32} {v : Int32} {I1 : tI} {J1 : tJ} (hb : PB I) (hq : f302_185 N I J a0 a1 = some (v, I1, J1)) : frO qfIU qfJU I I1 J J1 := by
  unfold f302_185 at hq
  have f0 : frO qfIU qfJU I I J J := fO_refl
  generalize e1 : f254_185 I J a0 = q1 at hq
  obtain ⟨v1, I1, J1⟩ := q1
  dsimp only at hq
  have f1 := fO_tr f0 (f254_185_frU (PB_frU f0 hb) e1)
  rcases bsp hq with ⟨-, hq⟩ | ⟨-, hq⟩
  ·
    generalize e3 : f205_185 I1 J1 1 = q3 at hq
    obtain ⟨v3, I3, J3⟩ := q3
    dsimp only at hq
    have f3 := fO_tr f1 (f205_185_frU (PB_frU f1 hb) e3)
    cases hq
    exact f3
  ·
    generalize e4 : f298 I1 J1 a1 0 = q4 at hq
    obtain ⟨v4, I4, J4⟩ := q4
    dsimp only at hq
    have f4 := fO_tr f1 (f298_frU (PB_frU f1 hb) e4)
    rcases bsp hq with ⟨-, hq⟩ | ⟨-, hq⟩
    ·
      obtain ⟨_, I6, J6, e6, hq⟩ := obU hq
      have p6 := PB_frU f4 hb
      have h6 : PB I6 := PB_keep p6 e6
      have f6 : frO qfIS qfJS I6 I6 J6 J6 := fO_refl
      obtain ⟨_, I7, J7, e7, hq⟩ := obU hq
      have f7 := fO_tr f6 (f285_185_frS (PB_frS f6 h6) e7)
      generalize e8 : f261_185 I7 J7 a0 = q8 at hq
      obtain ⟨v8, I8, J8⟩ := q8
      dsimp only at hq
      have f8 := fO_tr f7 (f261_185_frS (PB_frS f7 h6) e8)
      rcases bsp hq with ⟨-, hq⟩ | ⟨-, hq⟩
      ·
        obtain ⟨_, I10, J10, e10, hq⟩ := obU hq
        have f10 := fO_tr f4 (CC_seg e6 f8 e10)
        generalize e11 : f207_185 I10 J10 (-1) = q11 at hq
        obtain ⟨v11, I11, J11⟩ := q11
        dsimp only at hq
        have f11 := fO_tr f10 (f207_185_frU (PB_frU f10 hb) e11)
        cases hq
        exact f11
      ·
        generalize e12 : f260_185 I8 J8 a0 5 = q12 at hq
        obtain ⟨v12, I12, J12⟩ := q12
        dsimp only at hq
        have f12 := fO_tr f8 (f260_185_frS (PB_frS f8 h6) e12)
        generalize e13 : f263 I12 J12 v12 = q13 at hq
        obtain ⟨v13, I13, J13⟩ := q13
        dsimp only at hq
        have f13 := fO_tr f12 (f263_frS (PB_frS f12 h6) e13)
        obtain ⟨_, I14, J14, e14, hq⟩ := obU hq
        have f14 := fO_tr f4 (CC_seg e6 f13 e14)
        generalize e15 : f207_185 I14 J14 v13 = q15 at hq
        obtain ⟨v15, I15, J15⟩ := q15
        dsimp only at hq
        have f15 := fO_tr f14 (f207_185_frU (PB_frU f14 hb) e15)
        cases hq
        exact f15
    ·
      generalize e16 : f205_185 I4 J4 1 = q16 at hq
      obtain ⟨v16, I16, J16⟩ := q16
      dsimp only at hq
      have f16 := fO_tr f4 (f205_185_frU (PB_frU f4 hb) e16)
      cases hq
      exact f16
set_option maxRecDepth 100000 in
theorem f303_185_frU {N : Nat} {I : tI} {J : tJ} {a0 : Int32} {a1 : Int32} {a2 : Int32} {v : Int32} {I1 : tI} {J1 : tJ} (hb : PB I) (hq : f303_185 N I J a0 a1 a2 = some (v, I1, J1)) : frO qfIU qfJU I I1 J J1 := by
  unfold f303_185 at hq
  have f0 : frO qfIU qfJU I I J J := fO_refl
  generalize e1 : f253_185 I J a0 a1 = q1 at hq
  obtain ⟨v1, I1, J1⟩ := q1
  dsimp only at hq
  have f1 := fO_tr f0 (f253_185_frU (PB_frU f0 hb) e1)
  rcases bsp hq with ⟨-, hq⟩ | ⟨-, hq⟩
  ·
    generalize e3 : f205_185 I1 J1 1 = q3 at hq
    obtain ⟨v3, I3, J3⟩ := q3
    dsimp only at hq
    have f3 := fO_tr f1 (f205_185_frU (PB_frU f1 hb) e3)
    cases hq
    exact f3
  ·
    generalize e4 : f298 I1 J1 a2 0 = q4 at hq
    obtain ⟨v4, I4, J4⟩ := q4
    dsimp only at hq
    have f4 := fO_tr f1 (f298_frU (PB_frU f1 hb) e4)
    rcases bsp hq with ⟨-, hq⟩ | ⟨-, hq⟩
    ·
      obtain ⟨_, I6, J6, e6, hq⟩ := obU hq
      have p6 := PB_frU f4 hb
      have h6 : PB I6 := PB_keep p6 e6
      have f6 : frO qfIS qfJS I6 I6 J6 J6 := fO_refl
      obtain ⟨_, I7, J7, e7, hq⟩ := obU hq
      have f7 := fO_tr f6 (f285_185_frS (PB_frS f6 h6) e7)
      obtain ⟨v8, I8, J8, e8, hq⟩ := obI hq
      have f8 := fO_tr f7 (f264_185_frS (PB_frS f7 h6) e8)
      obtain ⟨_, I9, J9, e9, hq⟩ := obU hq
      have f9 := fO_tr f4 (CC_seg e6 f8 e9)
      generalize e10 : f207_185 I9 J9 v8 = q10 at hq
      obtain ⟨v10, I10, J10⟩ := q10
      dsimp only at hq
      have f10 := fO_tr f9 (f207_185_frU (PB_frU f9 hb) e10)
      cases hq
      exact f10
    ·
      generalize e11 : f205_185 I4 J4 1 = q11 at hq
      obtain ⟨v11, I11, J11⟩ := q11
      dsimp only at hq
      have f11 := fO_tr f4 (f205_185_frU (PB_frU f4 hb) e11)
      cases hq
      exact f11
set_option maxRecDepth 100000 in
theorem f304_185_frU {N : Nat} {I : tI} {J : tJ} {a0 : Int32} {v : Int32} {I1 : tI} {J1 : tJ} (hb : PB I) (hq : f304_185 N I J a0 = some (v, I1, J1)) : frO qfIU qfJU I I1 J J1 := by
  unfold f304_185 at hq
  have f0 : frO qfIU qfJU I I J J := fO_refl
  generalize e1 : f298 I J a0 0 = q1 at hq
  obtain ⟨v1, I1, J1⟩ := q1
  dsimp only at hq
  have f1 := fO_tr f0 (f298_frU (PB_frU f0 hb) e1)
  rcases bsp hq with ⟨-, hq⟩ | ⟨-, hq⟩
  ·
    obtain ⟨_, I3, J3, e3, hq⟩ := obU hq
    have p3 := PB_frU f1 hb
    have h3 : PB I3 := PB_keep p3 e3
    have f3 : frO qfIS qfJS I3 I3 J3 J3 := fO_refl
    obtain ⟨_, I4, J4, e4, hq⟩ := obU hq
    have f4 := fO_tr f3 (f285_185_frS (PB_frS f3 h3) e4)
    obtain ⟨v5, I5, J5, e5, hq⟩ := obI hq
    have f5 := fO_tr f4 (f266_185_frS (PB_frS f4 h3) e5)
    obtain ⟨_, I6, J6, e6, hq⟩ := obU hq
    have f6 := fO_tr f1 (CC_seg e3 f5 e6)
    generalize e7 : f206_185 I6 J6 v5 = q7 at hq
    obtain ⟨v7, I7, J7⟩ := q7
    dsimp only at hq
    have f7 := fO_tr f6 (f206_185_frU (PB_frU f6 hb) e7)
    cases hq
    exact f7
  ·
    generalize e8 : f205_185 I1 J1 1 = q8 at hq
    obtain ⟨v8, I8, J8⟩ := q8
    dsimp only at hq
    have f8 := fO_tr f1 (f205_185_frU (PB_frU f1 hb) e8)
    cases hq
    exact f8
set_option maxRecDepth 100000 in
theorem f255_185_frU {I : tI} {J : tJ} {a0 : Int32} {v : Int32} {I1 : tI} {J1 : tJ} (hb : PB I) (hq : f255_185 I J a0 = (v, I1, J1)) : frO qfIU qfJU I I1 J J1 := by
  unfold f255_185 at hq
  have f0 : frO qfIU qfJU I I J J := fO_refl
  rcases bsp hq with ⟨-, hq⟩ | ⟨-, hq⟩
  ·
    cases hq
    exact f0
  ·
    rcases bsp hq with ⟨-, hq⟩ | ⟨-, hq⟩
    ·
      cases hq
      exact f0
    ·
      cases hq
      exact f0
set_option maxRecDepth 100000 in
theorem f305_185_frU {N : Nat} {I : tI} {J : tJ} {a0 : Int32} {v : Unit} {I1 : tI} {J1 : tJ} (hb : PB I) (hq : f305_185 N I J a0 = some (v, I1, J1)) : frO qfIU qfJU I I1 J J1 := by
  unfold f305_185 at hq
  have f0 : frO qfIU qfJU I I J J := fO_refl
  obtain ⟨_, I1, J1, e1, hq⟩ := obU hq
  have p1 := PB_frU f0 hb
  have h1 : PB I1 := PB_keep p1 e1
  have f1 : frO qfIS qfJS I1 I1 J1 J1 := fO_refl
  cases e2 : f305_185_l9 N N I1 J1 a0 1 with
  | none => rw [e2] at hq; cases hq
  | some Y =>
  obtain ⟨y2_1, y2_2, I2, J2⟩ := Y
  rw [e2] at hq
  dsimp only at hq
  have f2 := fO_tr f1 (f305_185_l9_frS N (PB_frS f1 h1) e2)
  obtain ⟨_, I3, J3, e3, hq⟩ := obU hq
  have f3 := fO_tr f0 (CC_seg e1 f2 e3)
  cases hq
  exact f3
set_option maxRecDepth 100000 in
theorem f258_185_frU {I : tI} {J : tJ} {a0 : Int32} {a1 : Int32} {v : Int32} {I1 : tI} {J1 : tJ} (hb : PB I) (hq : f258_185 I J a0 a1 = (v, I1, J1)) : frO qfIU qfJU I I1 J J1 := by
  unfold f258_185 at hq
  have f0 : frO qfIU qfJU I I J J := fO_refl
  rcases bsp hq with ⟨-, hq⟩ | ⟨-, hq⟩
  ·
    cases hq
    exact f0
  ·
    cases hq
    exact f0
set_option maxRecDepth 100000 in
theorem f306_185_l9_frU {N : Nat} : ∀ (k : Nat) {I : tI} {J : tJ} {x1 : Int32} {x2 : Int32} {kx : Nat} {y1 : Int32} {y2 : Int32} {I1 : tI} {J1 : tJ}, PB I → f306_185_l9 N k I J x1 x2 = some (kx, y1, y2, I1, J1) → frO qfIU qfJU I I1 J J1
  | 0, _, _, _, _, _, _, _, _, _, hb, hq => by cases hq
  | k + 1, I, J, x1, x2, kx, y1, y2, I1, J1, hb, hq => by
    unfold f306_185_l9 at hq
    have f0 : frO qfIU qfJU I I J J := fO_refl
    rcases bsp hq with ⟨-, hq⟩ | ⟨-, hq⟩
    ·
      cases hq
      exact f0
    ·
      generalize e3 : f258_185 I J (I 194 (x2).toNatClampNeg) x1 = q3 at hq
      obtain ⟨v3, I3, J3⟩ := q3
      dsimp only at hq
      have f3 := fO_tr f0 (f258_185_frU (PB_frU f0 hb) e3)
      rcases bsp hq with ⟨-, hq⟩ | ⟨-, hq⟩
      ·
        exact fO_tr f3 (f306_185_l9_frU k (PB_frU f3 hb) hq)
      ·
        cases hq
        exact f3
set_option maxRecDepth 100000 in
theorem f306_185_frU {N : Nat} {I : tI} {J : tJ} {a0 : Int32} {v : Int32} {I1 : tI} {J1 : tJ} (hb : PB I) (hq : f306_185 N I J a0 = some (v, I1, J1)) : frO qfIU qfJU I I1 J J1 := by
  unfold f306_185 at hq
  have f0 : frO qfIU qfJU I I J J := fO_refl
  obtain ⟨_, I1, J1, e1, hq⟩ := obU hq
  have f1 := fO_tr f0 (f305_185_frU (PB_frU f0 hb) e1)
  cases e2 : f306_185_l9 N N I1 J1 a0 1 with
  | none => rw [e2] at hq; cases hq
  | some Y =>
  obtain ⟨k2, y2_1, y2_2, I2, J2⟩ := Y
  rw [e2] at hq
  dsimp only at hq
  have f2 := fO_tr f1 (f306_185_l9_frU N (PB_frU f1 hb) e2)
  rcases bsp hq with ⟨-, hq⟩ | ⟨-, hq⟩
  ·
    cases hq
    exact f2
  ·
    cases hq
    exact f2
set_option maxRecDepth 100000 in
theorem f307_185_frU {N : Nat} {I : tI} {J : tJ} {a0 : Int32} {v : Int32} {I1 : tI} {J1 : tJ} (hb : PB I) (hq : f307_185 N I J a0 = some (v, I1, J1)) : frO qfIU qfJU I I1 J J1 := by
  unfold f307_185 at hq
  have f0 : frO qfIU qfJU I I J J := fO_refl
  generalize e1 : f255_185 I J a0 = q1 at hq
  obtain ⟨v1, I1, J1⟩ := q1
  dsimp only at hq
  have f1 := fO_tr f0 (f255_185_frU (PB_frU f0 hb) e1)
  rcases bsp hq with ⟨-, hq⟩ | ⟨-, hq⟩
  ·
    generalize e3 : f205_185 I1 J1 1 = q3 at hq
    obtain ⟨v3, I3, J3⟩ := q3
    dsimp only at hq
    have f3 := fO_tr f1 (f205_185_frU (PB_frU f1 hb) e3)
    cases hq
    exact f3
  ·
    obtain ⟨v4, I4, J4, e4, hq⟩ := obI hq
    have f4 := fO_tr f1 (f306_185_frU (PB_frU f1 hb) e4)
    generalize e5 : f207_185 I4 J4 v4 = q5 at hq
    obtain ⟨v5, I5, J5⟩ := q5
    dsimp only at hq
    have f5 := fO_tr f4 (f207_185_frU (PB_frU f4 hb) e5)
    cases hq
    exact f5
set_option maxRecDepth 100000 in
theorem f270_185_frU {I : tI} {J : tJ} {a0 : Int32} {v : Int32} {I1 : tI} {J1 : tJ} (hb : PB I) (hq : f270_185 I J a0 = (v, I1, J1)) : frO qfIU qfJU I I1 J J1 := by
  unfold f270_185 at hq
  have f0 : frO qfIU qfJU I I J J := fO_refl
  cases hq
  exact f0
set_option maxRecDepth 100000 in
theorem f300_185_l4_frU {N : Nat} : ∀ (k : Nat) {I : tI} {J : tJ} {x1 : Int32} {x2 : Int32} {x3 : Int32} {y1 : Int32} {y2 : Int32} {y3 : Int32} {I1 : tI} {J1 : tJ}, PB I → f300_185_l4 N k I J x1 x2 x3 = some (y1, y2, y3, I1, J1) → frO qfIU qfJU I I1 J J1
  | 0, _, _, _, _, _, _, _, _, _, _, hb, hq => by cases hq
  | k + 1, I, J, x1, x2, x3, y1, y2, y3, I1, J1, hb, hq => by
    unfold f300_185_l4 at hq
    have f0 : frO qfIU qfJU I I J J := fO_refl
    rcases bsp hq with ⟨-, hq⟩ | ⟨-, hq⟩
    ·
      cases hq
      exact f0
    ·
      generalize e2 : f270_185 I J ((I 186 5) + x3) = q2 at hq
      obtain ⟨v2, I2, J2⟩ := q2
      dsimp only at hq
      have f2 := fO_tr f0 (f270_185_frU (PB_frU f0 hb) e2)
      exact fO_tr f2 (f300_185_l4_frU k (PB_frU f2 hb) hq)
set_option maxRecDepth 100000 in
theorem f300_185_frU {N : Nat} {I : tI} {J : tJ} {a0 : Int32} {v : Int32} {I1 : tI} {J1 : tJ} (hb : PB I) (hq : f300_185 N I J a0 = some (v, I1, J1)) : frO qfIU qfJU I I1 J J1 := by
  unfold f300_185 at hq
  have f0 : frO qfIU qfJU I I J J := fO_refl
  cases e1 : f300_185_l4 N N I J a0 0 1 with
  | none => rw [e1] at hq; cases hq
  | some Y =>
  obtain ⟨y1_1, y1_2, y1_3, I1, J1⟩ := Y
  rw [e1] at hq
  dsimp only at hq
  have f1 := fO_tr f0 (f300_185_l4_frU N (PB_frU f0 hb) e1)
  cases hq
  exact f1
set_option maxRecDepth 100000 in
theorem f308_185_frU {N : Nat} {I : tI} {J : tJ} {a0 : Int32} {v : Int32} {I1 : tI} {J1 : tJ} (hb : PB I) (hq : f308_185 N I J a0 = some (v, I1, J1)) : frO qfIU qfJU I I1 J J1 := by
  unfold f308_185 at hq
  have f0 : frO qfIU qfJU I I J J := fO_refl
  generalize e1 : f255_185 I J a0 = q1 at hq
  obtain ⟨v1, I1, J1⟩ := q1
  dsimp only at hq
  have f1 := fO_tr f0 (f255_185_frU (PB_frU f0 hb) e1)
  rcases bsp hq with ⟨-, hq⟩ | ⟨-, hq⟩
  ·
    obtain ⟨v3, I3, J3, e3, hq⟩ := obI hq
    have f3 := fO_tr f1 (f306_185_frU (PB_frU f1 hb) e3)
    rcases bsp hq with ⟨-, hq⟩ | ⟨-, hq⟩
    ·
      obtain ⟨v5, I5, J5, e5, hq⟩ := obI hq
      have f5 := fO_tr f3 (f300_185_frU (PB_frU f3 hb) e5)
      generalize e6 : f206_185 I5 J5 v5 = q6 at hq
      obtain ⟨v6, I6, J6⟩ := q6
      dsimp only at hq
      have f6 := fO_tr f5 (f206_185_frU (PB_frU f5 hb) e6)
      cases hq
      exact f6
    ·
      generalize e7 : f205_185 I3 J3 6 = q7 at hq
      obtain ⟨v7, I7, J7⟩ := q7
      dsimp only at hq
      have f7 := fO_tr f3 (f205_185_frU (PB_frU f3 hb) e7)
      cases hq
      exact f7
  ·
    generalize e8 : f205_185 I1 J1 1 = q8 at hq
    obtain ⟨v8, I8, J8⟩ := q8
    dsimp only at hq
    have f8 := fO_tr f1 (f205_185_frU (PB_frU f1 hb) e8)
    cases hq
    exact f8
set_option maxRecDepth 100000 in
theorem f309_185_l32_frU {N : Nat} : ∀ (k : Nat) {I : tI} {J : tJ} {x1 : Int32} {x2 : Int32} {x3 : Int32} {x4 : Int32} {y1 : Int32} {y2 : Int32} {y3 : Int32} {y4 : Int32} {I1 : tI} {J1 : tJ}, PB I → f309_185_l32 N k I J x1 x2 x3 x4 = some (y1, y2, y3, y4, I1, J1) → frO qfIU qfJU I I1 J J1
  | 0, _, _, _, _, _, _, _, _, _, _, _, _, hb, hq => by cases hq
  | k + 1, I, J, x1, x2, x3, x4, y1, y2, y3, y4, I1, J1, hb, hq => by
    unfold f309_185_l32 at hq
    have f0 : frO qfIU qfJU I I J J := fO_refl
    rcases bsp hq with ⟨-, hq⟩ | ⟨-, hq⟩
    ·
      cases hq
      exact f0
    ·
      generalize e8 : f258_185 I J (I 194 (x4).toNatClampNeg) x1 = q8 at hq
      obtain ⟨v8, I8, J8⟩ := q8
      dsimp only at hq
      have f8 := fO_tr f0 (f258_185_frU (PB_frU f0 hb) e8)
      rcases bsp hq with ⟨-, hq⟩ | ⟨-, hq⟩
      ·
        exact fO_tr f8 (f309_185_l32_frU k (PB_frU f8 hb) hq)
      ·
        exact fO_tr f8 (f309_185_l32_frU k (PB_frU f8 hb) hq)
set_option maxRecDepth 100000 in
theorem f309_185_frU {N : Nat} {I : tI} {J : tJ} {a0 : Int32} {a1 : Int32} {v : Int32} {I1 : tI} {J1 : tJ} (hb : PB I) (hq : f309_185 N I J a0 a1 = some (v, I1, J1)) : frO qfIU qfJU I I1 J J1 := by
  unfold f309_185 at hq
  have f0 : frO qfIU qfJU I I J J := fO_refl
  generalize e1 : f255_185 I J a0 = q1 at hq
  obtain ⟨v1, I1, J1⟩ := q1
  dsimp only at hq
  have f1 := fO_tr f0 (f255_185_frU (PB_frU f0 hb) e1)
  rcases bsp hq with ⟨-, hq⟩ | ⟨-, hq⟩
  ·
    generalize e3 : f205_185 I1 J1 1 = q3 at hq
    obtain ⟨v3, I3, J3⟩ := q3
    dsimp only at hq
    have f3 := fO_tr f1 (f205_185_frU (PB_frU f1 hb) e3)
    cases hq
    exact f3
  ·
    generalize e4 : f298 I1 J1 a1 1 = q4 at hq
    obtain ⟨v4, I4, J4⟩ := q4
    dsimp only at hq
    have f4 := fO_tr f1 (f298_frU (PB_frU f1 hb) e4)
    rcases bsp hq with ⟨-, hq⟩ | ⟨-, hq⟩
    ·
      obtain ⟨_, I6, J6, e6, hq⟩ := obU hq
      have f6 := fO_tr f4 (f305_185_frU (PB_frU f4 hb) e6)
      cases e7 : f309_185_l32 N N I6 J6 a0 a1 0 1 with
      | none => rw [e7] at hq; cases hq
      | some Y =>
      obtain ⟨y7_1, y7_2, y7_3, y7_4, I7, J7⟩ := Y
      rw [e7] at hq
      dsimp only at hq
      have f7 := fO_tr f6 (f309_185_l32_frU N (PB_frU f6 hb) e7)
      generalize e8 : f206_185 I7 J7 y7_3 = q8 at hq
      obtain ⟨v8, I8, J8⟩ := q8
      dsimp only at hq
      have f8 := fO_tr f7 (f206_185_frU (PB_frU f7 hb) e8)
      cases hq
      exact f8
    ·
      generalize e9 : f205_185 I4 J4 1 = q9 at hq
      obtain ⟨v9, I9, J9⟩ := q9
      dsimp only at hq
      have f9 := fO_tr f4 (f205_185_frU (PB_frU f4 hb) e9)
      cases hq
      exact f9
set_option maxRecDepth 100000 in
theorem f310_185_l35_frU {N : Nat} : ∀ (k : Nat) {I : tI} {J : tJ} {x1 : Int32} {x2 : Int32} {x3 : Int32} {x4 : Int32} {x5 : Int32} {y1 : Int32} {y2 : Int32} {y3 : Int32} {y4 : Int32} {y5 : Int32} {I1 : tI} {J1 : tJ}, PB I → f310_185_l35 N k I J x1 x2 x3 x4 x5 = some (y1, y2, y3, y4, y5, I1, J1) → frO qfIU qfJU I I1 J J1
  | 0, _, _, _, _, _, _, _, _, _, _, _, _, _, _, hb, hq => by cases hq
  | k + 1, I, J, x1, x2, x3, x4, x5, y1, y2, y3, y4, y5, I1, J1, hb, hq => by
    unfold f310_185_l35 at hq
    have f0 : frO qfIU qfJU I I J J := fO_refl
    rcases bsp hq with ⟨-, hq⟩ | ⟨-, hq⟩
    ·
      cases hq
      exact f0
    ·
      generalize e8 : f258_185 I J (I 194 (x5).toNatClampNeg) x1 = q8 at hq
      obtain ⟨v8, I8, J8⟩ := q8
      dsimp only at hq
      have f8 := fO_tr f0 (f258_185_frU (PB_frU f0 hb) e8)
      rcases bsp hq with ⟨-, hq⟩ | ⟨-, hq⟩
      ·
        exact fO_tr f8 (f310_185_l35_frU k (PB_frU f8 hb) hq)
      ·
        exact fO_tr f8 (f310_185_l35_frU k (PB_frU f8 hb) hq)
set_option maxRecDepth 100000 in
theorem f310_185_frU {N : Nat} {I : tI} {J : tJ} {a0 : Int32} {a1 : Int32} {v : Int32} {I1 : tI} {J1 : tJ} (hb : PB I) (hq : f310_185 N I J a0 a1 = some (v, I1, J1)) : frO qfIU qfJU I I1 J J1 := by
  unfold f310_185 at hq
  have f0 : frO qfIU qfJU I I J J := fO_refl
  generalize e1 : f255_185 I J a0 = q1 at hq
  obtain ⟨v1, I1, J1⟩ := q1
  dsimp only at hq
  have f1 := fO_tr f0 (f255_185_frU (PB_frU f0 hb) e1)
  rcases bsp hq with ⟨-, hq⟩ | ⟨-, hq⟩
  ·
    generalize e3 : f205_185 I1 J1 1 = q3 at hq
    obtain ⟨v3, I3, J3⟩ := q3
    dsimp only at hq
    have f3 := fO_tr f1 (f205_185_frU (PB_frU f1 hb) e3)
    cases hq
    exact f3
  ·
    generalize e4 : f298 I1 J1 a1 1 = q4 at hq
    obtain ⟨v4, I4, J4⟩ := q4
    dsimp only at hq
    have f4 := fO_tr f1 (f298_frU (PB_frU f1 hb) e4)
    rcases bsp hq with ⟨-, hq⟩ | ⟨-, hq⟩
    ·
      obtain ⟨_, I6, J6, e6, hq⟩ := obU hq
      have f6 := fO_tr f4 (f305_185_frU (PB_frU f4 hb) e6)
      cases e7 : f310_185_l35 N N I6 J6 a0 a1 0 0 1 with
      | none => rw [e7] at hq; cases hq
      | some Y =>
      obtain ⟨y7_1, y7_2, y7_3, y7_4, y7_5, I7, J7⟩ := Y
      rw [e7] at hq
      dsimp only at hq
      have f7 := fO_tr f6 (f310_185_l35_frU N (PB_frU f6 hb) e7)
      generalize e8 : f206_185 I7 J7 y7_3 = q8 at hq
      obtain ⟨v8, I8, J8⟩ := q8
      dsimp only at hq
      have f8 := fO_tr f7 (f206_185_frU (PB_frU f7 hb) e8)
      cases hq
      exact f8
    ·
      generalize e9 : f205_185 I4 J4 1 = q9 at hq
      obtain ⟨v9, I9, J9⟩ := q9
      dsimp only at hq
      have f9 := fO_tr f4 (f205_185_frU (PB_frU f4 hb) e9)
      cases hq
      exact f9
set_option maxRecDepth 100000 in
theorem f311_185_frU {N : Nat} {I : tI} {J : tJ} {a0 : Int32} {v : Int32} {I1 : tI} {J1 : tJ} (hb : PB I) (hq : f311_185 N I J a0 = some (v, I1, J1)) : frO qfIU qfJU I I1 J J1 := by
  unfold f311_185 at hq
  have f0 : frO qfIU qfJU I I J J := fO_refl
  generalize e1 : f254_185 I J a0 = q1 at hq
  obtain ⟨v1, I1, J1⟩ := q1
  dsimp only at hq
  have f1 := fO_tr f0 (f254_185_frU (PB_frU f0 hb) e1)
  rcases bsp hq with ⟨-, hq⟩ | ⟨-, hq⟩
  ·
    obtain ⟨_, I3, J3, e3, hq⟩ := obU hq
    have p3 := PB_frU f1 hb
    have h3 : PB I3 := PB_keep p3 e3
    have f3 : frO qfIS qfJS I3 I3 J3 J3 := fO_refl
    cases e4 : f311_185_l25 N N I3 J3 a0 1 1 with
    | none => rw [e4] at hq; cases hq
    | some Y =>
    obtain ⟨y4_1, y4_2, y4_3, I4, J4⟩ := Y
    rw [e4] at hq
    dsimp only at hq
    have f4 := fO_tr f3 (f311_185_l25_frS N (PB_frS f3 h3) e4)
    obtain ⟨_, I5, J5, e5, hq⟩ := obU hq
    have f5 := fO_tr f1 (CC_seg e3 f4 e5)
    rcases bsp hq with ⟨-, hq⟩ | ⟨-, hq⟩
    ·
      generalize e7 : f206_185 I5 J5 y4_2 = q7 at hq
      obtain ⟨v7, I7, J7⟩ := q7
      dsimp only at hq
      have f7 := fO_tr f5 (f206_185_frU (PB_frU f5 hb) e7)
      cases hq
      exact f7
    ·
      generalize e8 : f205_185 I5 J5 6 = q8 at hq
      obtain ⟨v8, I8, J8⟩ := q8
      dsimp only at hq
      have f8 := fO_tr f5 (f205_185_frU (PB_frU f5 hb) e8)
      cases hq
      exact f8
  ·
    generalize e9 : f205_185 I1 J1 1 = q9 at hq
    obtain ⟨v9, I9, J9⟩ := q9
    dsimp only at hq
    have f9 := fO_tr f1 (f205_185_frU (PB_frU f1 hb) e9)
    cases hq
    exact f9
set_option maxRecDepth 100000 in
theorem f313_185_frU {N : Nat} {I : tI} {J : tJ} {v : Int32} {I1 : tI} {J1 : tJ} (hb : PB I) (hq : f313_185 N I J = some (v, I1, J1)) : frO qfIU qfJU I I1 J J1 := by
  unfold f313_185 at hq
  have f0 : frO qfIU qfJU I I J J := fO_refl
  obtain ⟨_, I1, J1, e1, hq⟩ := obU hq
  have p1 := PB_frU f0 hb
  have h1 : PB I1 := PB_keep p1 e1
  have f1 : frO qfIS qfJS I1 I1 J1 J1 := fO_refl
  cases e2 : f313_185_l11 N N I1 J1 (-1) 1 with
  | none => rw [e2] at hq; cases hq
  | some Y =>
  obtain ⟨y2_1, y2_2, I2, J2⟩ := Y
  rw [e2] at hq
  dsimp only at hq
  have f2 := fO_tr f1 (f313_185_l11_frS N (PB_frS f1 h1) e2)
  obtain ⟨_, I3, J3, e3, hq⟩ := obU hq
  have f3 := fO_tr f0 (CC_seg e1 f2 e3)
  generalize e4 : f207_185 I3 J3 y2_1 = q4 at hq
  obtain ⟨v4, I4, J4⟩ := q4
  dsimp only at hq
  have f4 := fO_tr f3 (f207_185_frU (PB_frU f3 hb) e4)
  cases hq
  exact f4
set_option maxRecDepth 100000 in
theorem f314_185_frU {N : Nat} {I : tI} {J : tJ} {a0 : Int32} {a1 : Int32} {v : Int32} {I1 : tI} {J1 : tJ} (hb : PB I) (hq : f314_185 N I J a0 a1 = some (v, I1, J1)) : frO qfIU qfJU I I1 J J1 := by
  unfold f314_185 at hq
  have f0 : frO qfIU qfJU I I J J := fO_refl
  generalize e1 : f254_185 I J a0 = q1 at hq
  obtain ⟨v1, I1, J1⟩ := q1
  dsimp only at hq
  have f1 := fO_tr f0 (f254_185_frU (PB_frU f0 hb) e1)
  rcases bsp hq with ⟨-, hq⟩ | ⟨-, hq⟩
  ·
    generalize e3 : f205_185 I1 J1 1 = q3 at hq
    obtain ⟨v3, I3, J3⟩ := q3
    dsimp only at hq
    have f3 := fO_tr f1 (f205_185_frU (PB_frU f1 hb) e3)
    cases hq
    exact f3
  ·
    generalize e4 : f298 I1 J1 a1 1 = q4 at hq
    obtain ⟨v4, I4, J4⟩ := q4
    dsimp only at hq
    have f4 := fO_tr f1 (f298_frU (PB_frU f1 hb) e4)
    rcases bsp hq with ⟨-, hq⟩ | ⟨-, hq⟩
    ·
      obtain ⟨_, I6, J6, e6, hq⟩ := obU hq
      have p6 := PB_frU f4 hb
      have h6 : PB I6 := PB_keep p6 e6
      have f6 : frO qfIS qfJS I6 I6 J6 J6 := fO_refl
      cases e7 : f314_185_l34 N N I6 J6 a0 a1 0 0 with
      | none => rw [e7] at hq; cases hq
      | some Y =>
      obtain ⟨y7_1, y7_2, y7_3, y7_4, I7, J7⟩ := Y
      rw [e7] at hq
      dsimp only at hq
      have f7 := fO_tr f6 (f314_185_l34_frS N (PB_frS f6 h6) e7)
      obtain ⟨_, I8, J8, e8, hq⟩ := obU hq
      have f8 := fO_tr f4 (CC_seg e6 f7 e8)
      generalize e9 : f206_185 I8 J8 y7_3 = q9 at hq
      obtain ⟨v9, I9, J9⟩ := q9
      dsimp only at hq
      have f9 := fO_tr f8 (f206_185_frU (PB_frU f8 hb) e9)
      cases hq
      exact f9
    ·
      generalize e10 : f205_185 I4 J4 1 = q10 at hq
      obtain ⟨v10, I10, J10⟩ := q10
      dsimp only at hq
      have f10 := fO_tr f4 (f205_185_frU (PB_frU f4 hb) e10)
      cases hq
      exact f10
set_option maxRecDepth 100000 in
theorem f315_185_frU {I : tI} {J : tJ} {a0 : Int32} {a1 : Int32} {v : Int32} {I1 : tI} {J1 : tJ} (hb : PB I) (hq : f315_185 I J a0 a1 = (v, I1, J1)) : frO qfIU qfJU I I1 J J1 := by
  unfold f315_185 at hq
  have f0 : frO qfIU qfJU I I J J := fO_refl
  generalize e1 : f216 I J ((a0).toInt64) 0 ((1 <<< ((Int32.toInt64 ((I 186 3))) &&& 63)) - 1) = q1 at hq
  obtain ⟨v1, I1, J1⟩ := q1
  dsimp only at hq
  have f1 := fO_tr f0 (f216_frU (PB_frU f0 hb) e1)
  rcases bsp hq with ⟨-, hq⟩ | ⟨-, hq⟩
  ·
    cases hq
    exact f1
  ·
    generalize e3 : f216 I1 J1 ((a1).toInt64) 1 12 = q3 at hq
    obtain ⟨v3, I3, J3⟩ := q3
    dsimp only at hq
    have f3 := fO_tr f1 (f216_frU (PB_frU f1 hb) e3)
    rcases bsp hq with ⟨-, hq⟩ | ⟨-, hq⟩
    ·
      cases hq
      exact f3
    ·
      cases hq
      exact f3
set_option maxRecDepth 100000 in
theorem f317_185_l24_frU {N : Nat} : ∀ (k : Nat) {I : tI} {J : tJ} {x1 : Int32} {x2 : Int32} {x3 : Int32} {x4 : Int32} {x5 : Int32} {x6 : Int32} {y1 : Int32} {y2 : Int32} {y3 : Int32} {y4 : Int32} {y5 : Int32} {y6 : Int32} {I1 : tI} {J1 : tJ}, PB I → f317_185_l24 N k I J x1 x2 x3 x4 x5 x6 = some (y1, y2, y3, y4, y5, y6, I1, J1) → frO qfIU qfJU I I1 J J1
  | 0, _, _, _, _, _, _, _, _, _, _, _, _, _, _, _, _, hb, hq => by cases hq
  | k + 1, I, J, x1, x2, x3, x4, x5, x6, y1, y2, y3, y4, y5, y6, I1, J1, hb, hq => by
    unfold f317_185_l24 at hq
    have f0 : frO qfIU qfJU I I J J := fO_refl
    rcases bsp hq with ⟨-, hq⟩ | ⟨-, hq⟩
    ·
      cases hq
      exact f0
    ·
      generalize e4 : f258_185 I J x4 x6 = q4 at hq
      obtain ⟨v4, I4, J4⟩ := q4
      dsimp only at hq
      have f4 := fO_tr f0 (f258_185_frU (PB_frU f0 hb) e4)
      rcases bsp hq with ⟨-, hq⟩ | ⟨-, hq⟩
      ·
        exact fO_tr f4 (f317_185_l24_frU k (PB_frU f4 hb) hq)
      ·
        exact fO_tr f4 (f317_185_l24_frU k (PB_frU f4 hb) hq)
set_option maxRecDepth 100000 in
theorem f316_185_l4_frU {N : Nat} : ∀ (k : Nat) {I : tI} {J : tJ} {x1 : Int32} {x2 : Int32} {x3 : Int32} {y1 : Int32} {y2 : Int32} {y3 : Int32} {I1 : tI} {J1 : tJ}, PB I → f316_185_l4 N k I J x1 x2 x3 = some (y1, y2, y3, I1, J1) → frO qfIU qfJU I I1 J J1
  | 0, _, _, _, _, _, _, _, _, _, _, hb, hq => by cases hq
  | k + 1, I, J, x1, x2, x3, y1, y2, y3, I1, J1, hb, hq => by
    unfold f316_185_l4 at hq
    have f0 : frO qfIU qfJU I I J J := fO_refl
    rcases bsp hq with ⟨-, hq⟩ | ⟨-, hq⟩
    ·
      cases hq
      exact f0
    ·
      generalize e2 : f258_185 I J x1 x3 = q2 at hq
      obtain ⟨v2, I2, J2⟩ := q2
      dsimp only at hq
      have f2 := fO_tr f0 (f258_185_frU (PB_frU f0 hb) e2)
      rcases bsp hq with ⟨-, hq⟩ | ⟨-, hq⟩
      ·
        exact fO_tr f2 (f316_185_l4_frU k (PB_frU f2 hb) hq)
      ·
        generalize e4 : f270_185 I2 J2 (((I2 186 5) + x3) + 1) = q4 at hq
        obtain ⟨v4, I4, J4⟩ := q4
        dsimp only at hq
        have f4 := fO_tr f2 (f270_185_frU (PB_frU f2 hb) e4)
        exact fO_tr f4 (f316_185_l4_frU k (PB_frU f4 hb) hq)
set_option maxRecDepth 100000 in
theorem f316_185_frU {N : Nat} {I : tI} {J : tJ} {a0 : Int32} {v : Int32} {I1 : tI} {J1 : tJ} (hb : PB I) (hq : f316_185 N I J a0 = some (v, I1, J1)) : frO qfIU qfJU I I1 J J1 := by
  unfold f316_185 at hq
  have f0 : frO qfIU qfJU I I J J := fO_refl
  cases e1 : f316_185_l4 N N I J a0 0 0 with
  | none => rw [e1] at hq; cases hq
  | some Y =>
  obtain ⟨y1_1, y1_2, y1_3, I1, J1⟩ := Y
  rw [e1] at hq
  dsimp only at hq
  have f1 := fO_tr f0 (f316_185_l4_frU N (PB_frU f0 hb) e1)
  cases hq
  exact f1
set_option maxRecDepth 100000 in
theorem f259_l4_frU {N : Nat} : ∀ (k : Nat) {I : tI} {J : tJ} {x1 : Int32} {x2 : Int32} {y1 : Int32} {y2 : Int32} {I1 : tI} {J1 : tJ}, PB I → f259_l4 N k I J x1 x2 = some (y1, y2, I1, J1) → frO qfIU qfJU I I1 J J1
  | 0, _, _, _, _, _, _, _, _, hb, hq => by cases hq
  | k + 1, I, J, x1, x2, y1, y2, I1, J1, hb, hq => by
    unfold f259_l4 at hq
    have f0 : frO qfIU qfJU I I J J := fO_refl
    rcases bsp hq with ⟨-, hq⟩ | ⟨-, hq⟩
    ·
      cases hq
      exact f0
    ·
      exact fO_tr f0 (f259_l4_frU k (PB_frU f0 hb) hq)
set_option maxRecDepth 100000 in
theorem f259_frU {N : Nat} {I : tI} {J : tJ} {a0 : Int32} {v : Int32} {I1 : tI} {J1 : tJ} (hb : PB I) (hq : f259 N I J a0 = some (v, I1, J1)) : frO qfIU qfJU I I1 J J1 := by
  unfold f259 at hq
  have f0 : frO qfIU qfJU I I J J := fO_refl
  cases e1 : f259_l4 N N I J 0 a0 with
  | none => rw [e1] at hq; cases hq
  | some Y =>
  obtain ⟨y1_1, y1_2, I1, J1⟩ := Y
  rw [e1] at hq
  dsimp only at hq
  have f1 := fO_tr f0 (f259_l4_frU N (PB_frU f0 hb) e1)
  cases hq
  exact f1
set_option maxRecDepth 100000 in
theorem f317_185_l10_frU {N : Nat} : ∀ (k : Nat) {I : tI} {J : tJ} {x1 : Int32} {x2 : Int32} {x3 : Int32} {x4 : Int32} {y1 : Int32} {y2 : Int32} {y3 : Int32} {y4 : Int32} {I1 : tI} {J1 : tJ}, PB I → f317_185_l10 N k I J x1 x2 x3 x4 = some (y1, y2, y3, y4, I1, J1) → frO qfIU qfJU I I1 J J1
  | 0, _, _, _, _, _, _, _, _, _, _, _, _, hb, hq => by cases hq
  | k + 1, I, J, x1, x2, x3, x4, y1, y2, y3, y4, I1, J1, hb, hq => by
    unfold f317_185_l10 at hq
    have f0 : frO qfIU qfJU I I J J := fO_refl
    rcases bsp hq with ⟨-, hq⟩ | ⟨-, hq⟩
    ·
      cases hq
      exact f0
    ·
      cases e3 : f317_185_l24 N N I J x1 x2 x3 x4 0 0 with
      | none => rw [e3] at hq; cases hq
      | some Y =>
      obtain ⟨y3_1, y3_2, y3_3, y3_4, y3_5, y3_6, I3, J3⟩ := Y
      rw [e3] at hq
      dsimp only at hq
      have f3 := fO_tr f0 (f317_185_l24_frU N (PB_frU f0 hb) e3)
      rcases bsp hq with ⟨-, hq⟩ | ⟨-, hq⟩
      ·
        rcases bsp hq with ⟨-, hq⟩ | ⟨-, hq⟩
        ·
          obtain ⟨v6, I6, J6, e6, hq⟩ := obI hq
          have f6 := fO_tr f3 (f316_185_frU (PB_frU f3 hb) e6)
          obtain ⟨v7, I7, J7, e7, hq⟩ := obI hq
          have f7 := fO_tr f6 (f316_185_frU (PB_frU f6 hb) e7)
          rcases bsp hq with ⟨-, hq⟩ | ⟨-, hq⟩
          ·
            obtain ⟨v9, I9, J9, e9, hq⟩ := obI hq
            have f9 := fO_tr f7 (f259_frU (PB_frU f7 hb) e9)
            obtain ⟨v10, I10, J10, e10, hq⟩ := obI hq
            have f10 := fO_tr f9 (f259_frU (PB_frU f9 hb) e10)
            rcases bsp hq with ⟨-, hq⟩ | ⟨-, hq⟩
            ·
              exact fO_tr f10 (f317_185_l10_frU k (PB_frU f10 hb) hq)
            ·
              exact fO_tr f10 (f317_185_l10_frU k (PB_frU f10 hb) hq)
          ·
            obtain ⟨v12, I12, J12, e12, hq⟩ := obI hq
            have f12 := fO_tr f7 (f316_185_frU (PB_frU f7 hb) e12)
            obtain ⟨v13, I13, J13, e13, hq⟩ := obI hq
            have f13 := fO_tr f12 (f316_185_frU (PB_frU f12 hb) e13)
            rcases bsp hq with ⟨-, hq⟩ | ⟨-, hq⟩
            ·
              exact fO_tr f13 (f317_185_l10_frU k (PB_frU f13 hb) hq)
            ·
              exact fO_tr f13 (f317_185_l10_frU k (PB_frU f13 hb) hq)
        ·
          rcases bsp hq with ⟨-, hq⟩ | ⟨-, hq⟩
          ·
            exact fO_tr f3 (f317_185_l10_frU k (PB_frU f3 hb) hq)
          ·
            exact fO_tr f3 (f317_185_l10_frU k (PB_frU f3 hb) hq)
      ·
        exact fO_tr f3 (f317_185_l10_frU k (PB_frU f3 hb) hq)
set_option maxRecDepth 100000 in
theorem f317_185_frU {N : Nat} {I : tI} {J : tJ} {a0 : Int32} {a1 : Int32} {v : Int32} {I1 : tI} {J1 : tJ} (hb : PB I) (hq : f317_185 N I J a0 a1 = some (v, I1, J1)) : frO qfIU qfJU I I1 J J1 := by
  unfold f317_185 at hq
  have f0 : frO qfIU qfJU I I J J := fO_refl
  obtain ⟨_, I1, J1, e1, hq⟩ := obU hq
  have f1 := fO_tr f0 (f305_185_frU (PB_frU f0 hb) e1)
  cases e2 : f317_185_l10 N N I1 J1 a0 a1 (-1) 0 with
  | none => rw [e2] at hq; cases hq
  | some Y =>
  obtain ⟨y2_1, y2_2, y2_3, y2_4, I2, J2⟩ := Y
  rw [e2] at hq
  dsimp only at hq
  have f2 := fO_tr f1 (f317_185_l10_frU N (PB_frU f1 hb) e2)
  cases hq
  exact f2
set_option maxRecDepth 100000 in
theorem f318_185_frU {N : Nat} {I : tI} {J : tJ} {a0 : Int32} {a1 : Int32} {v : Int32} {I1 : tI} {J1 : tJ} (hb : PB I) (hq : f318_185 N I J a0 a1 = some (v, I1, J1)) : frO qfIU qfJU I I1 J J1 := by
  unfold f318_185 at hq
  have f0 : frO qfIU qfJU I I J J := fO_refl
  generalize e1 : f315_185 I J a0 a1 = q1 at hq
  obtain ⟨v1, I1, J1⟩ := q1
  dsimp only at hq
  have f1 := fO_tr f0 (f315_185_frU (PB_frU f0 hb) e1)
  rcases bsp hq with ⟨-, hq⟩ | ⟨-, hq⟩
  ·
    obtain ⟨v3, I3, J3, e3, hq⟩ := obI hq
    have f3 := fO_tr f1 (f317_185_frU (PB_frU f1 hb) e3)
    rcases bsp hq with ⟨-, hq⟩ | ⟨-, hq⟩
    ·
      obtain ⟨v5, I5, J5, e5, hq⟩ := obI hq
      have f5 := fO_tr f3 (f316_185_frU (PB_frU f3 hb) e5)
      generalize e6 : f206_185 I5 J5 v5 = q6 at hq
      obtain ⟨v6, I6, J6⟩ := q6
      dsimp only at hq
      have f6 := fO_tr f5 (f206_185_frU (PB_frU f5 hb) e6)
      cases hq
      exact f6
    ·
      generalize e7 : f205_185 I3 J3 6 = q7 at hq
      obtain ⟨v7, I7, J7⟩ := q7
      dsimp only at hq
      have f7 := fO_tr f3 (f205_185_frU (PB_frU f3 hb) e7)
      cases hq
      exact f7
  ·
    generalize e8 : f205_185 I1 J1 1 = q8 at hq
    obtain ⟨v8, I8, J8⟩ := q8
    dsimp only at hq
    have f8 := fO_tr f1 (f205_185_frU (PB_frU f1 hb) e8)
    cases hq
    exact f8
set_option maxRecDepth 100000 in
theorem f319_185_frU {N : Nat} {I : tI} {J : tJ} {a0 : Int32} {a1 : Int32} {v : Int32} {I1 : tI} {J1 : tJ} (hb : PB I) (hq : f319_185 N I J a0 a1 = some (v, I1, J1)) : frO qfIU qfJU I I1 J J1 := by
  unfold f319_185 at hq
  have f0 : frO qfIU qfJU I I J J := fO_refl
  generalize e1 : f315_185 I J a0 a1 = q1 at hq
  obtain ⟨v1, I1, J1⟩ := q1
  dsimp only at hq
  have f1 := fO_tr f0 (f315_185_frU (PB_frU f0 hb) e1)
  rcases bsp hq with ⟨-, hq⟩ | ⟨-, hq⟩
  ·
    generalize e3 : f205_185 I1 J1 1 = q3 at hq
    obtain ⟨v3, I3, J3⟩ := q3
    dsimp only at hq
    have f3 := fO_tr f1 (f205_185_frU (PB_frU f1 hb) e3)
    cases hq
    exact f3
  ·
    obtain ⟨v4, I4, J4, e4, hq⟩ := obI hq
    have f4 := fO_tr f1 (f317_185_frU (PB_frU f1 hb) e4)
    generalize e5 : f207_185 I4 J4 v4 = q5 at hq
    obtain ⟨v5, I5, J5⟩ := q5
    dsimp only at hq
    have f5 := fO_tr f4 (f207_185_frU (PB_frU f4 hb) e5)
    cases hq
    exact f5
set_option maxRecDepth 100000 in
theorem f320_185_l39_frU {N : Nat} : ∀ (k : Nat) {I : tI} {J : tJ} {x1 : Int32} {x3 : Int32} {x4 : Int32} {y1 : Int32} {y3 : Int32} {y4 : Int32} {I1 : tI} {J1 : tJ}, PB I → f320_185_l39 N k I J x1 x3 x4 = some (y1, y3, y4, I1, J1) → frO qfIU qfJU I I1 J J1
  | 0, _, _, _, _, _, _, _, _, _, _, hb, hq => by cases hq
  | k + 1, I, J, x1, x3, x4, y1, y3, y4, I1, J1, hb, hq => by
    unfold f320_185_l39 at hq
    have f0 : frO qfIU qfJU I I J J := fO_refl
    rcases bsp hq with ⟨-, hq⟩ | ⟨-, hq⟩
    ·
      cases hq
      exact f0
    ·
      exact fO_tr f0 (f320_185_l39_frU k (PB_frU f0 hb) hq)
set_option maxRecDepth 100000 in
theorem f320_185_frU {N : Nat} {I : tI} {J : tJ} {a0 : Int32} {a1 : Int32} {v : Int32} {I1 : tI} {J1 : tJ} (hb : PB I) (hq : f320_185 N I J a0 a1 = some (v, I1, J1)) : frO qfIU qfJU I I1 J J1 := by
  unfold f320_185 at hq
  have f0 : frO qfIU qfJU I I J J := fO_refl
  generalize e1 : f216 I J ((a0).toInt64) 1 60 = q1 at hq
  obtain ⟨v1, I1, J1⟩ := q1
  dsimp only at hq
  have f1 := fO_tr f0 (f216_frU (PB_frU f0 hb) e1)
  rcases bsp hq with ⟨-, hq⟩ | ⟨-, hq⟩
  ·
    generalize e3 : f205_185 I1 J1 1 = q3 at hq
    obtain ⟨v3, I3, J3⟩ := q3
    dsimp only at hq
    have f3 := fO_tr f1 (f205_185_frU (PB_frU f1 hb) e3)
    cases hq
    exact f3
  ·
    rcases bsp hq with ⟨-, hq⟩ | ⟨-, hq⟩
    ·
      generalize e5 : f205_185 I1 J1 1 = q5 at hq
      obtain ⟨v5, I5, J5⟩ := q5
      dsimp only at hq
      have f5 := fO_tr f1 (f205_185_frU (PB_frU f1 hb) e5)
      cases hq
      exact f5
    ·
      rcases bsp hq with ⟨-, hq⟩ | ⟨-, hq⟩
      ·
        obtain ⟨_, I7, J7, e7, hq⟩ := obU hq
        have f7 := fO_tr f1 (f305_185_frU (PB_frU f1 hb) e7)
        cases e8 : f320_185_l39 N N I7 J7 a0 0 (1 + a1) with
        | none => rw [e8] at hq; cases hq
        | some Y =>
        obtain ⟨y8_1, y8_3, y8_4, I8, J8⟩ := Y
        rw [e8] at hq
        dsimp only at hq
        have f8 := fO_tr f7 (f320_185_l39_frU N (PB_frU f7 hb) e8)
        obtain ⟨v9, I9, J9, e9, hq⟩ := obI hq
        have f9 := fO_tr f8 (f259_frU (PB_frU f8 hb) e9)
        generalize e10 : f206_185 I9 J9 v9 = q10 at hq
        obtain ⟨v10, I10, J10⟩ := q10
        dsimp only at hq
        have f10 := fO_tr f9 (f206_185_frU (PB_frU f9 hb) e10)
        cases hq
        exact f10
      ·
        generalize e11 : f205_185 I1 J1 1 = q11 at hq
        obtain ⟨v11, I11, J11⟩ := q11
        dsimp only at hq
        have f11 := fO_tr f1 (f205_185_frU (PB_frU f1 hb) e11)
        cases hq
        exact f11
set_option maxRecDepth 100000 in
theorem f321_185_frU {I : tI} {J : tJ} {a0 : Int32} {a1 : Int32} {v : Int32} {I1 : tI} {J1 : tJ} (hb : PB I) (hq : f321_185 I J a0 a1 = (v, I1, J1)) : frO qfIU qfJU I I1 J J1 := by
  unfold f321_185 at hq
  have f0 : frO qfIU qfJU I I J J := fO_refl
  generalize e1 : f255_185 I J a0 = q1 at hq
  obtain ⟨v1, I1, J1⟩ := q1
  dsimp only at hq
  have f1 := fO_tr f0 (f255_185_frU (PB_frU f0 hb) e1)
  rcases bsp hq with ⟨-, hq⟩ | ⟨-, hq⟩
  ·
    cases hq
    exact f1
  ·
    generalize e3 : f216 I1 J1 ((a1).toInt64) 1 9 = q3 at hq
    obtain ⟨v3, I3, J3⟩ := q3
    dsimp only at hq
    have f3 := fO_tr f1 (f216_frU (PB_frU f1 hb) e3)
    rcases bsp hq with ⟨-, hq⟩ | ⟨-, hq⟩
    ·
      cases hq
      exact f3
    ·
      cases hq
      exact f3
set_option maxRecDepth 100000 in
theorem f322_185_frU {N : Nat} {I : tI} {J : tJ} {a0 : Int32} {a1 : Int32} {v : Int32} {I1 : tI} {J1 : tJ} (hb : PB I) (hq : f322_185 N I J a0 a1 = some (v, I1, J1)) : frO qfIU qfJU I I1 J J1 := by
  unfold f322_185 at hq
  have f0 : frO qfIU qfJU I I J J := fO_refl
  generalize e1 : f321_185 I J a0 a1 = q1 at hq
  obtain ⟨v1, I1, J1⟩ := q1
  dsimp only at hq
  have f1 := fO_tr f0 (f321_185_frU (PB_frU f0 hb) e1)
  rcases bsp hq with ⟨-, hq⟩ | ⟨-, hq⟩
  ·
    obtain ⟨v3, I3, J3, e3, hq⟩ := obI hq
    have f3 := fO_tr f1 (f306_185_frU (PB_frU f1 hb) e3)
    rcases bsp hq with ⟨-, hq⟩ | ⟨-, hq⟩
    ·
      rcases bsp hq with ⟨-, hq⟩ | ⟨-, hq⟩
      ·
        generalize e6 : f206_185 I3 J3 1 = q6 at hq
        obtain ⟨v6, I6, J6⟩ := q6
        dsimp only at hq
        have f6 := fO_tr f3 (f206_185_frU (PB_frU f3 hb) e6)
        cases hq
        exact f6
      ·
        generalize e7 : f206_185 I3 J3 0 = q7 at hq
        obtain ⟨v7, I7, J7⟩ := q7
        dsimp only at hq
        have f7 := fO_tr f3 (f206_185_frU (PB_frU f3 hb) e7)
        cases hq
        exact f7
    ·
      generalize e8 : f205_185 I3 J3 6 = q8 at hq
      obtain ⟨v8, I8, J8⟩ := q8
      dsimp only at hq
      have f8 := fO_tr f3 (f205_185_frU (PB_frU f3 hb) e8)
      cases hq
      exact f8
  ·
    generalize e9 : f205_185 I1 J1 1 = q9 at hq
    obtain ⟨v9, I9, J9⟩ := q9
    dsimp only at hq
    have f9 := fO_tr f1 (f205_185_frU (PB_frU f1 hb) e9)
    cases hq
    exact f9
set_option maxRecDepth 100000 in
theorem f323_185_frU {N : Nat} {I : tI} {J : tJ} {a0 : Int32} {a1 : Int32} {v : Int32} {I1 : tI} {J1 : tJ} (hb : PB I) (hq : f323_185 N I J a0 a1 = some (v, I1, J1)) : frO qfIU qfJU I I1 J J1 := by
  unfold f323_185 at hq
  have f0 : frO qfIU qfJU I I J J := fO_refl
  generalize e1 : f321_185 I J a0 a1 = q1 at hq
  obtain ⟨v1, I1, J1⟩ := q1
  dsimp only at hq
  have f1 := fO_tr f0 (f321_185_frU (PB_frU f0 hb) e1)
  rcases bsp hq with ⟨-, hq⟩ | ⟨-, hq⟩
  ·
    obtain ⟨v3, I3, J3, e3, hq⟩ := obI hq
    have f3 := fO_tr f1 (f306_185_frU (PB_frU f1 hb) e3)
    rcases bsp hq with ⟨-, hq⟩ | ⟨-, hq⟩
    ·
      generalize e5 : f205_185 I3 J3 6 = q5 at hq
      obtain ⟨v5, I5, J5⟩ := q5
      dsimp only at hq
      have f5 := fO_tr f3 (f205_185_frU (PB_frU f3 hb) e5)
      cases hq
      exact f5
    ·
      rcases bsp hq with ⟨-, hq⟩ | ⟨-, hq⟩
      ·
        generalize e7 : f206_185 I3 J3 (v3 - v3 / (a1 + 1) * (a1 + 1)) = q7 at hq
        obtain ⟨v7, I7, J7⟩ := q7
        dsimp only at hq
        have f7 := fO_tr f3 (f206_185_frU (PB_frU f3 hb) e7)
        cases hq
        exact f7
      ·
        generalize e8 : f205_185 I3 J3 6 = q8 at hq
        obtain ⟨v8, I8, J8⟩ := q8
        dsimp only at hq
        have f8 := fO_tr f3 (f205_185_frU (PB_frU f3 hb) e8)
        cases hq
        exact f8
  ·
    generalize e9 : f205_185 I1 J1 1 = q9 at hq
    obtain ⟨v9, I9, J9⟩ := q9
    dsimp only at hq
    have f9 := fO_tr f1 (f205_185_frU (PB_frU f1 hb) e9)
    cases hq
    exact f9
set_option maxRecDepth 100000 in
theorem f256_185_frU {I : tI} {J : tJ} {a0 : Int32} {v : Int32} {I1 : tI} {J1 : tJ} (hb : PB I) (hq : f256_185 I J a0 = (v, I1, J1)) : frO qfIU qfJU I I1 J J1 := by
  unfold f256_185 at hq
  have f0 : frO qfIU qfJU I I J J := fO_refl
  rcases bsp hq with ⟨-, hq⟩ | ⟨-, hq⟩
  ·
    cases hq
    exact f0
  ·
    rcases bsp hq with ⟨-, hq⟩ | ⟨-, hq⟩
    ·
      cases hq
      exact f0
    ·
      cases hq
      exact f0
set_option maxRecDepth 100000 in
theorem f325_185_l2_frU {N : Nat} : ∀ (k : Nat) {I : tI} {J : tJ} {x1 : Int32} {x2 : Int32} {y1 : Int32} {y2 : Int32} {I1 : tI} {J1 : tJ}, PB I → f325_185_l2 N k I J x1 x2 = some (y1, y2, I1, J1) → frO qfIU qfJU I I1 J J1
  | 0, _, _, _, _, _, _, _, _, hb, hq => by cases hq
  | k + 1, I, J, x1, x2, y1, y2, I1, J1, hb, hq => by
    unfold f325_185_l2 at hq
    have f0 : frO qfIU qfJU I I J J := fO_refl
    rcases bsp hq with ⟨-, hq⟩ | ⟨-, hq⟩
    ·
      cases hq
      exact f0
    ·
      obtain ⟨v2, I2, J2, e2, hq⟩ := obI hq
      have f2 := fO_tr f0 (f300_185_frU (PB_frU f0 hb) e2)
      rcases bsp hq with ⟨-, hq⟩ | ⟨-, hq⟩
      ·
        cases hq
        exact f2
      ·
        exact fO_tr f2 (f325_185_l2_frU k (PB_frU f2 hb) hq)
set_option maxRecDepth 100000 in
theorem f325_185_frU {N : Nat} {I : tI} {J : tJ} {a0 : Int32} {v : Int32} {I1 : tI} {J1 : tJ} (hb : PB I) (hq : f325_185 N I J a0 = some (v, I1, J1)) : frO qfIU qfJU I I1 J J1 := by
  unfold f325_185 at hq
  have f0 : frO qfIU qfJU I I J J := fO_refl
  cases e1 : f325_185_l2 N N I J a0 0 with
  | none => rw [e1] at hq; cases hq
  | some Y =>
  obtain ⟨y1_1, y1_2, I1, J1⟩ := Y
  rw [e1] at hq
  dsimp only at hq
  have f1 := fO_tr f0 (f325_185_l2_frU N (PB_frU f0 hb) e1)
  cases hq
  exact f1
set_option maxRecDepth 100000 in
theorem f327_185_l30_frU {N : Nat} : ∀ (k : Nat) {I : tI} {J : tJ} {x2 : Int32} {x3 : Int32} {x4 : Int32} {y2 : Int32} {y3 : Int32} {y4 : Int32} {I1 : tI} {J1 : tJ}, PB I → f327_185_l30 N k I J x2 x3 x4 = some (y2, y3, y4, I1, J1) → frO qfIU qfJU I I1 J J1
  | 0, _, _, _, _, _, _, _, _, _, _, hb, hq => by cases hq
  | k + 1, I, J, x2, x3, x4, y2, y3, y4, I1, J1, hb, hq => by
    unfold f327_185_l30 at hq
    have f0 : frO qfIU qfJU I I J J := fO_refl
    rcases bsp hq with ⟨-, hq⟩ | ⟨-, hq⟩
    ·
      cases hq
      exact f0
    ·
      exact fO_tr f0 (f327_185_l30_frU k (PB_frU f0 hb) hq)
set_option maxRecDepth 100000 in
theorem f327_185_frU {N : Nat} {I : tI} {J : tJ} {a0 : Int32} {v : Int32} {I1 : tI} {J1 : tJ} (hb : PB I) (hq : f327_185 N I J a0 = some (v, I1, J1)) : frO qfIU qfJU I I1 J J1 := by
  unfold f327_185 at hq
  have f0 : frO qfIU qfJU I I J J := fO_refl
  generalize e1 : f256_185 I J a0 = q1 at hq
  obtain ⟨v1, I1, J1⟩ := q1
  dsimp only at hq
  have f1 := fO_tr f0 (f256_185_frU (PB_frU f0 hb) e1)
  rcases bsp hq with ⟨-, hq⟩ | ⟨-, hq⟩
  ·
    obtain ⟨v3, I3, J3, e3, hq⟩ := obI hq
    have f3 := fO_tr f1 (f325_185_frU (PB_frU f1 hb) e3)
    obtain ⟨_, I4, J4, e4, hq⟩ := obU hq
    have f4 := fO_tr f3 (f305_185_frU (PB_frU f3 hb) e4)
    cases e5 : f327_185_l30 N N I4 J4 v3 0 1 with
    | none => rw [e5] at hq; cases hq
    | some Y =>
    obtain ⟨y5_2, y5_3, y5_4, I5, J5⟩ := Y
    rw [e5] at hq
    dsimp only at hq
    have f5 := fO_tr f4 (f327_185_l30_frU N (PB_frU f4 hb) e5)
    generalize e6 : f206_185 I5 J5 y5_3 = q6 at hq
    obtain ⟨v6, I6, J6⟩ := q6
    dsimp only at hq
    have f6 := fO_tr f5 (f206_185_frU (PB_frU f5 hb) e6)
    cases hq
    exact f6
  ·
    generalize e7 : f205_185 I1 J1 1 = q7 at hq
    obtain ⟨v7, I7, J7⟩ := q7
    dsimp only at hq
    have f7 := fO_tr f1 (f205_185_frU (PB_frU f1 hb) e7)
    cases hq
    exact f7
set_option maxRecDepth 100000 in
theorem f209_frU {I : tI} {J : tJ} {a0 : Int32} {v : Int32} {I1 : tI} {J1 : tJ} (hb : PB I) (hq : f209 I J a0 = (v, I1, J1)) : frO qfIU qfJU I I1 J J1 := by
  unfold f209 at hq
  have f0 : frO qfIU qfJU I I J J := fO_refl
  rcases bsp hq with ⟨-, hq⟩ | ⟨-, hq⟩
  ·
    cases hq
    exact f0
  ·
    rcases bsp hq with ⟨-, hq⟩ | ⟨-, hq⟩
    ·
      cases hq
      exact f0
    ·
      cases hq
      exact f0
set_option maxRecDepth 100000 in
theorem f335_185_frU {N : Nat} {I : tI} {J : tJ} {a0 : Int32} {a1 : Int32} {a2 : Int32} {v : Int32} {I1 : tI} {J1 : tJ} (hb : PB I) (hq : f335_185 N I J a0 a1 a2 = some (v, I1, J1)) : frO qfIU qfJU I I1 J J1 := by
  unfold f335_185 at hq
  have f0 : frO qfIU qfJU I I J J := fO_refl
  generalize e1 : f254_185 I J a0 = q1 at hq
  obtain ⟨v1, I1, J1⟩ := q1
  dsimp only at hq
  have f1 := fO_tr f0 (f254_185_frU (PB_frU f0 hb) e1)
  rcases bsp hq with ⟨-, hq⟩ | ⟨-, hq⟩
  ·
    generalize e3 : f205_185 I1 J1 1 = q3 at hq
    obtain ⟨v3, I3, J3⟩ := q3
    dsimp only at hq
    have f3 := fO_tr f1 (f205_185_frU (PB_frU f1 hb) e3)
    cases hq
    exact f3
  ·
    generalize e4 : f209 I1 J1 a1 = q4 at hq
    obtain ⟨v4, I4, J4⟩ := q4
    dsimp only at hq
    have f4 := fO_tr f1 (f209_frU (PB_frU f1 hb) e4)
    rcases bsp hq with ⟨-, hq⟩ | ⟨-, hq⟩
    ·
      generalize e6 : f205_185 I4 J4 1 = q6 at hq
      obtain ⟨v6, I6, J6⟩ := q6
      dsimp only at hq
      have f6 := fO_tr f4 (f205_185_frU (PB_frU f4 hb) e6)
      cases hq
      exact f6
    ·
      generalize e7 : f216 I4 J4 ((a2).toInt64) 1 20 = q7 at hq
      obtain ⟨v7, I7, J7⟩ := q7
      dsimp only at hq
      have f7 := fO_tr f4 (f216_frU (PB_frU f4 hb) e7)
      rcases bsp hq with ⟨-, hq⟩ | ⟨-, hq⟩
      ·
        rcases bsp hq with ⟨-, hq⟩ | ⟨-, hq⟩
        ·
          rcases bsp hq with ⟨-, hq⟩ | ⟨-, hq⟩
          ·
            obtain ⟨_, I11, J11, e11, hq⟩ := obU hq
            have p11 := PB_frU f7 hb
            have h11 : PB I11 := PB_keep p11 e11
            have f11 : frO qfIS qfJS I11 I11 J11 J11 := fO_refl
            cases e12 : f335_185_l75 N N I11 J11 a0 a1 a2 0 with
            | none => rw [e12] at hq; cases hq
            | some Y =>
            obtain ⟨y12_1, y12_2, y12_3, y12_4, I12, J12⟩ := Y
            rw [e12] at hq
            dsimp only at hq
            have f12 := fO_tr f11 (f335_185_l75_frS N (PB_frS f11 h11) e12)
            obtain ⟨_, I13, J13, e13, hq⟩ := obU hq
            have f13 := fO_tr f7 (CC_seg e11 f12 e13)
            generalize e14 : f206_185 I13 J13 y12_3 = q14 at hq
            obtain ⟨v14, I14, J14⟩ := q14
            dsimp only at hq
            have f14 := fO_tr f13 (f206_185_frU (PB_frU f13 hb) e14)
            cases hq
            exact f14
          ·
            generalize e15 : f205_185 I7 J7 3 = q15 at hq
            obtain ⟨v15, I15, J15⟩ := q15
            dsimp only at hq
            have f15 := fO_tr f7 (f205_185_frU (PB_frU f7 hb) e15)
            cases hq
            exact f15
        ·
          generalize e16 : f205_185 I7 J7 2 = q16 at hq
          obtain ⟨v16, I16, J16⟩ := q16
          dsimp only at hq
          have f16 := fO_tr f7 (f205_185_frU (PB_frU f7 hb) e16)
          cases hq
          exact f16
      ·
        generalize e17 : f205_185 I7 J7 1 = q17 at hq
        obtain ⟨v17, I17, J17⟩ := q17
        dsimp only at hq
        have f17 := fO_tr f7 (f205_185_frU (PB_frU f7 hb) e17)
        cases hq
        exact f17
set_option maxRecDepth 100000 in
theorem f208_185_l6_frU {N : Nat} : ∀ (k : Nat) {I : tI} {J : tJ} {x1 : Int64} {x3 : Int64} {x5 : Int64} {x7 : Int64} {y1 : Int64} {y3 : Int64} {y5 : Int64} {y7 : Int64} {I1 : tI} {J1 : tJ}, PB I → f208_185_l6 N k I J x1 x3 x5 x7 = some (y1, y3, y5, y7, I1, J1) → frO qfIU qfJU I I1 J J1
  | 0, _, _, _, _, _, _, _, _, _, _, _, _, hb, hq => by cases hq
  | k + 1, I, J, x1, x3, x5, x7, y1, y3, y5, y7, I1, J1, hb, hq => by
    unfold f208_185_l6 at hq
    have f0 : frO qfIU qfJU I I J J := fO_refl
    rcases bsp hq with ⟨-, hq⟩ | ⟨-, hq⟩
    ·
      cases hq
      exact f0
    ·
      exact fO_tr f0 (f208_185_l6_frU k (PB_frU f0 hb) hq)
set_option maxRecDepth 100000 in
theorem f204_185_frU {I : tI} {J : tJ} {a0 : Int32} {v : Int32} {I1 : tI} {J1 : tJ} (hb : PB I) (hq : f204_185 I J a0 = (v, I1, J1)) : frO qfIU qfJU I I1 J J1 := by
  unfold f204_185 at hq
  have f0 : frO qfIU qfJU I I J J := fO_refl
  rcases bsp hq with ⟨-, hq⟩ | ⟨-, hq⟩
  ·
    cases hq
    exact (fO_I f0 rfl)
  ·
    cases hq
    exact (fO_I f0 rfl)
set_option maxRecDepth 100000 in
theorem f208_185_frU {N : Nat} {I : tI} {J : tJ} {a0 : Int64} {a1 : Int64} {v : Int32} {I1 : tI} {J1 : tJ} (hb : PB I) (hq : f208_185 N I J a0 a1 = some (v, I1, J1)) : frO qfIU qfJU I I1 J J1 := by
  unfold f208_185 at hq
  have f0 : frO qfIU qfJU I I J J := fO_refl
  cases e1 : f208_185_l6 N N I J a0 a1 a0 a1 with
  | none => rw [e1] at hq; cases hq
  | some Y =>
  obtain ⟨y1_1, y1_3, y1_5, y1_7, I1, J1⟩ := Y
  rw [e1] at hq
  dsimp only at hq
  have f1 := fO_tr f0 (f208_185_l6_frU N (PB_frU f0 hb) e1)
  generalize e2 : f204_185 I1 (tup (tup J1 185 3 (y1_1 / y1_5)) 185 4 (y1_3 / y1_5)) 0 = q2 at hq
  obtain ⟨v2, I2, J2⟩ := q2
  dsimp only at hq
  have f2 := fO_tr (fO_J (fO_J f1 rfl) rfl) (f204_185_frU (PB_frU f1 hb) e2)
  cases hq
  exact f2
