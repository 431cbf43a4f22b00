/-! WHAT THE READER OF RUNS LEAVES ALONE -/
def qfIH : Nat → Nat → Bool := fun o _ => Nat.beq o 8 || (Nat.ble 60 o && Nat.ble o 66)
def qfJH : Nat → Nat → Bool := fun o _ => Nat.beq o 8
set_option maxRecDepth 100000 in
theorem f127_frH {I : tI} {J : tJ} {a0 : Int32} {a1 : Int32} {a2 : Int32} {v : Int32} {I1 : tI} {J1 : tJ} (hq : f127 I J a0 a1 a2 = (v, I1, J1)) : frO qfIH qfJH I I1 J J1 := by
  unfold f127 at hq
  have f0 : frO qfIH qfJH I I J J := fO_refl
  rcases bsp hq with ⟨-, hq⟩ | ⟨-, hq⟩
  ·
    cases hq
    exact f0
  ·
    rcases bsp hq with ⟨-, hq⟩ | ⟨-, hq⟩
    ·
      cases hq
      exact f0
    ·
      cases hq
      exact f0
set_option maxRecDepth 100000 in
theorem f25_8_l8_frH {N : Nat} : ∀ (k : Nat) {I : tI} {J : tJ} {I1 : tI} {J1 : tJ}, f25_8_l8 N k I J = some (I1, J1) → frO qfIH qfJH I I1 J J1
  | 0, _, _, _, _, hq => by cases hq
  | k + 1, I, J, I1, J1, hq => by
    unfold f25_8_l8 at hq
    have f0 : frO qfIH qfJH I I J J := fO_refl
    rcases bsp hq with ⟨-, hq⟩ | ⟨-, hq⟩
    ·
      cases hq
      exact f0
    ·
      rcases bsp hq with ⟨-, hq⟩ | ⟨-, hq⟩
      ·
        exact fO_tr (fO_I f0 rfl) (f25_8_l8_frH k hq)
      ·
        rcases bsp hq with ⟨-, hq⟩ | ⟨-, hq⟩
        ·
          cases hq
          exact f0
        ·
          exact fO_tr (fO_I f0 rfl) (f25_8_l8_frH k hq)
set_option maxRecDepth 100000 in
theorem f26_8_frH {I : tI} {J : tJ} {a0 : Int32} {v : Int32} {I1 : tI} {J1 : tJ} (hq : f26_8 I J a0 = (v, I1, J1)) : frO qfIH qfJH I I1 J J1 := by
  unfold f26_8 at hq
  have f0 : frO qfIH qfJH I I J J := fO_refl
  rcases bsp hq with ⟨-, hq⟩ | ⟨-, hq⟩
  ·
    cases hq
    exact f0
  ·
    rcases bsp hq with ⟨-, hq⟩ | ⟨-, hq⟩
    ·
      cases hq
      exact f0
    ·
      rcases bsp hq with ⟨-, hq⟩ | ⟨-, hq⟩
      ·
        cases hq
        exact f0
      ·
        cases hq
        exact f0
set_option maxRecDepth 100000 in
theorem f27_8_frH {I : tI} {J : tJ} {a0 : Int32} {v : Int32} {I1 : tI} {J1 : tJ} (hq : f27_8 I J a0 = (v, I1, J1)) : frO qfIH qfJH I I1 J J1 := by
  unfold f27_8 at hq
  have f0 : frO qfIH qfJH I I J J := fO_refl
  rcases bsp hq with ⟨-, hq⟩ | ⟨-, hq⟩
  ·
    cases hq
    exact f0
  ·
    rcases bsp hq with ⟨-, hq⟩ | ⟨-, hq⟩
    ·
      cases hq
      exact f0
    ·
      rcases bsp hq with ⟨-, hq⟩ | ⟨-, hq⟩
      ·
        cases hq
        exact f0
      ·
        cases hq
        exact f0
set_option maxRecDepth 100000 in
theorem f30_8_frH {I : tI} {J : tJ} {v : Unit} {I1 : tI} {J1 : tJ} (hq : f30_8 I J = (v, I1, J1)) : frO qfIH qfJH I I1 J J1 := by
  unfold f30_8 at hq
  have f0 : frO qfIH qfJH I I J J := fO_refl
  rcases bsp hq with ⟨-, hq⟩ | ⟨-, hq⟩
  ·
    cases hq
    exact (fO_I (fO_I (fO_I f0 rfl) rfl) rfl)
  ·
    rcases bsp hq with ⟨-, hq⟩ | ⟨-, hq⟩
    ·
      cases hq
      exact (fO_I (fO_I (fO_I f0 rfl) rfl) rfl)
    ·
      rcases bsp hq with ⟨-, hq⟩ | ⟨-, hq⟩
      ·
        cases hq
        exact (fO_I (fO_I (fO_I f0 rfl) rfl) rfl)
      ·
        rcases bsp hq with ⟨-, hq⟩ | ⟨-, hq⟩
        ·
          cases hq
          exact (fO_I (fO_I (fO_I f0 rfl) rfl) rfl)
        ·
          cases hq
          exact (fO_I (fO_I (fO_I f0 rfl) rfl) rfl)
set_option maxRecDepth 100000 in
theorem f29_8_l0_frH {N : Nat} : ∀ (k : Nat) {I : tI} {J : tJ} {I1 : tI} {J1 : tJ}, f29_8_l0 N k I J = some (I1, J1) → frO qfIH qfJH I I1 J J1
  | 0, _, _, _, _, hq => by cases hq
  | k + 1, I, J, I1, J1, hq => by
    unfold f29_8_l0 at hq
    have f0 : frO qfIH qfJH I I J J := fO_refl
    rcases bsp hq with ⟨-, hq⟩ | ⟨-, hq⟩
    ·
      cases hq
      exact f0
    ·
      generalize e2 : f27_8 I J (I 8 4) = q2 at hq
      obtain ⟨v2, I2, J2⟩ := q2
      dsimp only at hq
      have f2 := fO_tr f0 (f27_8_frH e2)
      rcases bsp hq with ⟨-, hq⟩ | ⟨-, hq⟩
      ·
        cases hq
        exact f2
      ·
        rcases bsp hq with ⟨-, hq⟩ | ⟨-, hq⟩
        ·
          exact fO_tr (fO_I f2 rfl) (f29_8_l0_frH k hq)
        ·
          exact fO_tr (fO_I (fO_I f2 rfl) rfl) (f29_8_l0_frH k hq)
set_option maxRecDepth 100000 in
theorem f29_8_j72_frH {N : Nat} {I : tI} {J : tJ} {v : Unit} {I1 : tI} {J1 : tJ} (hq : f29_8_j72 N I J = some (v, I1, J1)) : frO qfIH qfJH I I1 J J1 := by
  unfold f29_8_j72 at hq
  have f0 : frO qfIH qfJH I I J J := fO_refl
  rcases bsp hq with ⟨-, hq⟩ | ⟨-, hq⟩
  ·
    cases hq
    exact (fO_I f0 rfl)
  ·
    cases hq
    exact (fO_I f0 rfl)
set_option maxRecDepth 100000 in
theorem f29_8_frH {N : Nat} {I : tI} {J : tJ} {v : Unit} {I1 : tI} {J1 : tJ} (hq : f29_8 N I J = some (v, I1, J1)) : frO qfIH qfJH I I1 J J1 := by
  unfold f29_8 at hq
  have f0 : frO qfIH qfJH I I J J := fO_refl
  cases e1 : f29_8_l0 N N I J with
  | none => rw [e1] at hq; cases hq
  | some Y =>
  obtain ⟨I1, J1⟩ := Y
  rw [e1] at hq
  dsimp only at hq
  have f1 := fO_tr f0 (f29_8_l0_frH N e1)
  exact fO_tr f1 (f29_8_j72_frH hq)
set_option maxRecDepth 100000 in
theorem f28_8_l5_frH {N : Nat} : ∀ (k : Nat) {I : tI} {J : tJ} {I1 : tI} {J1 : tJ}, f28_8_l5 N k I J = some (I1, J1) → frO qfIH qfJH I I1 J J1
  | 0, _, _, _, _, hq => by cases hq
  | k + 1, I, J, I1, J1, hq => by
    unfold f28_8_l5 at hq
    have f0 : frO qfIH qfJH I I J J := fO_refl
    rcases bsp hq with ⟨-, hq⟩ | ⟨-, hq⟩
    ·
      cases hq
      exact f0
    ·
      generalize e2 : f26_8 I J (I 8 4) = q2 at hq
      obtain ⟨v2, I2, J2⟩ := q2
      dsimp only at hq
      have f2 := fO_tr f0 (f26_8_frH e2)
      rcases bsp hq with ⟨-, hq⟩ | ⟨-, hq⟩
      ·
        cases hq
        exact f2
      ·
        rcases bsp hq with ⟨-, hq⟩ | ⟨-, hq⟩
        ·
          exact fO_tr (fO_I f2 rfl) (f28_8_l5_frH k hq)
        ·
          exact fO_tr (fO_J (fO_I f2 rfl) rfl) (f28_8_l5_frH k hq)
set_option maxRecDepth 100000 in
theorem f28_8_frH {N : Nat} {I : tI} {J : tJ} {v : Unit} {I1 : tI} {J1 : tJ} (hq : f28_8 N I J = some (v, I1, J1)) : frO qfIH qfJH I I1 J J1 := by
  unfold f28_8 at hq
  have f0 : frO qfIH qfJH I I J J := fO_refl
  cases e1 : f28_8_l5 N N (tup I 8 2 1) J with
  | none => rw [e1] at hq; cases hq
  | some Y =>
  obtain ⟨I1, J1⟩ := Y
  rw [e1] at hq
  dsimp only at hq
  have f1 := fO_tr (fO_I f0 rfl) (f28_8_l5_frH N e1)
  cases hq
  exact f1
set_option maxRecDepth 100000 in
theorem f31_8_l12_frH {N : Nat} : ∀ (k : Nat) {I : tI} {J : tJ} {x1 : Int32} {x2 : Int32} {x3 : Int32} {x4 : Int32} {kx : Nat} {y1 : Int32} {y2 : Int32} {y3 : Int32} {y4 : Int32} {I1 : tI} {J1 : tJ}, f31_8_l12 N k I J x1 x2 x3 x4 = some (kx, y1, y2, y3, y4, I1, J1) → frO qfIH qfJH I I1 J J1
  | 0, _, _, _, _, _, _, _, _, _, _, _, _, _, hq => by cases hq
  | k + 1, I, J, x1, x2, x3, x4, kx, y1, y2, y3, y4, I1, J1, hq => by
    unfold f31_8_l12 at hq
    have f0 : frO qfIH qfJH I I J J := fO_refl
    rcases bsp hq with ⟨-, hq⟩ | ⟨-, hq⟩
    ·
      cases hq
      exact f0
    ·
      rcases bsp hq with ⟨-, hq⟩ | ⟨-, hq⟩
      ·
        rcases bsp hq with ⟨-, hq⟩ | ⟨-, hq⟩
        ·
          exact fO_tr f0 (f31_8_l12_frH k hq)
        ·
          rcases bsp hq with ⟨-, hq⟩ | ⟨-, hq⟩
          ·
            exact fO_tr f0 (f31_8_l12_frH k hq)
          ·
            cases hq
            exact f0
      ·
        rcases bsp hq with ⟨-, hq⟩ | ⟨-, hq⟩
        ·
          exact fO_tr f0 (f31_8_l12_frH k hq)
        ·
          rcases bsp hq with ⟨-, hq⟩ | ⟨-, hq⟩
          ·
            exact fO_tr f0 (f31_8_l12_frH k hq)
          ·
            rcases bsp hq with ⟨-, hq⟩ | ⟨-, hq⟩
            ·
              exact fO_tr f0 (f31_8_l12_frH k hq)
            ·
              exact fO_tr f0 (f31_8_l12_frH k hq)
set_option maxRecDepth 100000 in
theorem f31_8_frH {N : Nat} {I : tI} {J : tJ} {v : Int32} {I1 : tI} {J1 : tJ} (hq : f31_8 N I J = some (v, I1, J1)) : frO qfIH qfJH I I1 J J1 := by
  unfold f31_8 at hq
  have f0 : frO qfIH qfJH I I J J := fO_refl
  cases e1 : f31_8_l12 N N I J 0 (I 8 3) 1 0 with
  | none => rw [e1] at hq; cases hq
  | some Y =>
  obtain ⟨k1, y1_1, y1_2, y1_3, y1_4, I1, J1⟩ := Y
  rw [e1] at hq
  dsimp only at hq
  have f1 := fO_tr f0 (f31_8_l12_frH N e1)
  rcases bsp hq with ⟨-, hq⟩ | ⟨-, hq⟩
  ·
    cases hq
    exact f1
  ·
    cases hq
    exact f1
set_option maxRecDepth 100000 in
theorem f25_8_j60_frH {N : Nat} {I : tI} {J : tJ} {v : Unit} {I1 : tI} {J1 : tJ} (hq : f25_8_j60 N I J = some (v, I1, J1)) : frO qfIH qfJH I I1 J J1 := by
  unfold f25_8_j60 at hq
  have f0 : frO qfIH qfJH I I J J := fO_refl
  rcases bsp hq with ⟨-, hq⟩ | ⟨-, hq⟩
  ·
    generalize e3 : f26_8 (tup (tup (tup I 8 4 (I 8 3)) 8 5 (-1)) 8 7 0) (tup J 8 6 0) (I 8 3) = q3 at hq
    obtain ⟨v3, I3, J3⟩ := q3
    dsimp only at hq
    have f3 := fO_tr (fO_J (fO_I (fO_I (fO_I f0 rfl) rfl) rfl) rfl) (f26_8_frH e3)
    rcases bsp hq with ⟨-, hq⟩ | ⟨-, hq⟩
    ·
      generalize e5 : f27_8 I3 J3 (I3 8 3) = q5 at hq
      obtain ⟨v5, I5, J5⟩ := q5
      dsimp only at hq
      have f5 := fO_tr f3 (f27_8_frH e5)
      rcases bsp hq with ⟨-, hq⟩ | ⟨-, hq⟩
      ·
        generalize e7 : f30_8 I5 J5 = q7 at hq
        obtain ⟨v7, I7, J7⟩ := q7
        dsimp only at hq
        have f7 := fO_tr f5 (f30_8_frH e7)
        cases hq
        exact f7
      ·
        obtain ⟨_, I8, J8, e8, hq⟩ := obU hq
        have f8 := fO_tr f5 (f29_8_frH e8)
        cases hq
        exact f8
    ·
      obtain ⟨_, I9, J9, e9, hq⟩ := obU hq
      have f9 := fO_tr f3 (f28_8_frH e9)
      obtain ⟨v10, I10, J10, e10, hq⟩ := obI hq
      have f10 := fO_tr f9 (f31_8_frH e10)
      cases hq
      exact (fO_I f10 rfl)
  ·
    cases hq
    exact (fO_J (fO_I (fO_I (fO_I (fO_I f0 rfl) rfl) rfl) rfl) rfl)
set_option maxRecDepth 100000 in
theorem f25_8_frH {N : Nat} {I : tI} {J : tJ} {v : Unit} {I1 : tI} {J1 : tJ} (hq : f25_8 N I J = some (v, I1, J1)) : frO qfIH qfJH I I1 J J1 := by
  unfold f25_8 at hq
  have f0 : frO qfIH qfJH I I J J := fO_refl
  cases e1 : f25_8_l8 N N (tup I 8 3 (I 8 4)) J with
  | none => rw [e1] at hq; cases hq
  | some Y =>
  obtain ⟨I1, J1⟩ := Y
  rw [e1] at hq
  dsimp only at hq
  have f1 := fO_tr (fO_I f0 rfl) (f25_8_l8_frH N e1)
  exact fO_tr f1 (f25_8_j60_frH hq)
set_option maxRecDepth 100000 in
theorem f24_8_frH {N : Nat} {I : tI} {J : tJ} {a0 : Int32} {v : Unit} {I1 : tI} {J1 : tJ} (hq : f24_8 N I J a0 = some (v, I1, J1)) : frO qfIH qfJH I I1 J J1 := by
  unfold f24_8 at hq
  have f0 : frO qfIH qfJH I I J J := fO_refl
  obtain ⟨_, I1, J1, e1, hq⟩ := obU hq
  have f1 := fO_tr (fO_I (fO_I (fO_I (fO_I f0 rfl) rfl) rfl) rfl) (f25_8_frH e1)
  cases hq
  exact f1
set_option maxRecDepth 100000 in
theorem f32_8_frH {I : tI} {J : tJ} {v : Int32} {I1 : tI} {J1 : tJ} (hq : f32_8 I J = (v, I1, J1)) : frO qfIH qfJH I I1 J J1 := by
  unfold f32_8 at hq
  have f0 : frO qfIH qfJH I I J J := fO_refl
  rcases bsp hq with ⟨-, hq⟩ | ⟨-, hq⟩
  ·
    cases hq
    exact f0
  ·
    cases hq
    exact f0
set_option maxRecDepth 100000 in
theorem f33_8_frH {I : tI} {J : tJ} {a0 : Int32} {v : Int32} {I1 : tI} {J1 : tJ} (hq : f33_8 I J a0 = (v, I1, J1)) : frO qfIH qfJH I I1 J J1 := by
  unfold f33_8 at hq
  have f0 : frO qfIH qfJH I I J J := fO_refl
  rcases bsp hq with ⟨-, hq⟩ | ⟨-, hq⟩
  ·
    cases hq
    exact (fO_I (fO_I f0 rfl) rfl)
  ·
    cases hq
    exact (fO_I (fO_I f0 rfl) rfl)
set_option maxRecDepth 100000 in
theorem f37_8_frH {I : tI} {J : tJ} {a0 : Int32} {a1 : Int32} {v : Int32} {I1 : tI} {J1 : tJ} (hq : f37_8 I J a0 a1 = (v, I1, J1)) : frO qfIH qfJH I I1 J J1 := by
  unfold f37_8 at hq
  have f0 : frO qfIH qfJH I I J J := fO_refl
  rcases bsp hq with ⟨-, hq⟩ | ⟨-, hq⟩
  ·
    generalize e2 : f127 I J (I 8 7) a0 a1 = q2 at hq
    obtain ⟨v2, I2, J2⟩ := q2
    dsimp only at hq
    have f2 := fO_tr f0 (f127_frH e2)
    rcases bsp hq with ⟨-, hq⟩ | ⟨-, hq⟩
    ·
      cases hq
      exact f2
    ·
      generalize e4 : f33_8 I2 J2 4 = q4 at hq
      obtain ⟨v4, I4, J4⟩ := q4
      dsimp only at hq
      have f4 := fO_tr f2 (f33_8_frH e4)
      rcases bsp hq with ⟨-, hq⟩ | ⟨-, hq⟩
      ·
        cases hq
        exact f4
      ·
        cases hq
        exact f4
  ·
    generalize e6 : f33_8 I J 2 = q6 at hq
    obtain ⟨v6, I6, J6⟩ := q6
    dsimp only at hq
    have f6 := fO_tr f0 (f33_8_frH e6)
    cases hq
    exact f6
set_option maxRecDepth 100000 in
theorem f35_8_frH {N : Nat} {I : tI} {J : tJ} {v : Int32} {I1 : tI} {J1 : tJ} (hq : f35_8 N I J = some (v, I1, J1)) : frO qfIH qfJH I I1 J J1 := by
  unfold f35_8 at hq
  have f0 : frO qfIH qfJH I I J J := fO_refl
  rcases bsp hq with ⟨-, hq⟩ | ⟨-, hq⟩
  ·
    generalize e2 : f33_8 I J 2 = q2 at hq
    obtain ⟨v2, I2, J2⟩ := q2
    dsimp only at hq
    have f2 := fO_tr f0 (f33_8_frH e2)
    cases hq
    exact f2
  ·
    rcases bsp hq with ⟨-, hq⟩ | ⟨-, hq⟩
    ·
      obtain ⟨_, I4, J4, e4, hq⟩ := obU hq
      have f4 := fO_tr f0 (f25_8_frH e4)
      cases hq
      exact f4
    ·
      generalize e5 : f33_8 I J 2 = q5 at hq
      obtain ⟨v5, I5, J5⟩ := q5
      dsimp only at hq
      have f5 := fO_tr f0 (f33_8_frH e5)
      cases hq
      exact f5
set_option maxRecDepth 100000 in
theorem f38_8_frH {I : tI} {J : tJ} {v : Int32} {I1 : tI} {J1 : tJ} (hq : f38_8 I J = (v, I1, J1)) : frO qfIH qfJH I I1 J J1 := by
  unfold f38_8 at hq
  have f0 : frO qfIH qfJH I I J J := fO_refl
  rcases bsp hq with ⟨-, hq⟩ | ⟨-, hq⟩
  ·
    generalize e2 : f33_8 I J 2 = q2 at hq
    obtain ⟨v2, I2, J2⟩ := q2
    dsimp only at hq
    have f2 := fO_tr f0 (f33_8_frH e2)
    rcases bsp hq with ⟨-, hq⟩ | ⟨-, hq⟩
    ·
      cases hq
      exact f2
    ·
      cases hq
      exact f2
  ·
    rcases bsp hq with ⟨-, hq⟩ | ⟨-, hq⟩
    ·
      generalize e5 : f33_8 I J 2 = q5 at hq
      obtain ⟨v5, I5, J5⟩ := q5
      dsimp only at hq
      have f5 := fO_tr f0 (f33_8_frH e5)
      rcases bsp hq with ⟨-, hq⟩ | ⟨-, hq⟩
      ·
        cases hq
        exact f5
      ·
        cases hq
        exact f5
    ·
      rcases bsp hq with ⟨-, hq⟩ | ⟨-, hq⟩
      ·
        cases hq
        exact f0
      ·
        generalize e8 : f33_8 I J 2 = q8 at hq
        obtain ⟨v8, I8, J8⟩ := q8
        dsimp only at hq
        have f8 := fO_tr f0 (f33_8_frH e8)
        rcases bsp hq with ⟨-, hq⟩ | ⟨-, hq⟩
        ·
          cases hq
          exact f8
        ·
          cases hq
          exact f8
set_option maxRecDepth 100000 in
theorem f71_61_frH {I : tI} {J : tJ} {v : Unit} {I1 : tI} {J1 : tJ} (hq : f71_61 I J = (v, I1, J1)) : frO qfIH qfJH I I1 J J1 := by
  unfold f71_61 at hq
  have f0 : frO qfIH qfJH I I J J := fO_refl
  cases hq
  exact (fO_I (fO_I (fO_I f0 rfl) rfl) rfl)
set_option maxRecDepth 100000 in
theorem f52_60_j72_frH {I : tI} {J : tJ} {x1 : Int32} {v : Int32} {I1 : tI} {J1 : tJ} (hq : f52_60_j72 I J x1 = (v, I1, J1)) : frO qfIH qfJH I I1 J J1 := by
  unfold f52_60_j72 at hq
  have f0 : frO qfIH qfJH I I J J := fO_refl
  rcases bsp hq with ⟨-, hq⟩ | ⟨-, hq⟩
  ·
    rcases bsp hq with ⟨-, hq⟩ | ⟨-, hq⟩
    ·
      cases hq
      exact f0
    ·
      rcases bsp hq with ⟨-, hq⟩ | ⟨-, hq⟩
      ·
        cases hq
        exact f0
      ·
        generalize e6 : f33_8 I J 7 = q6 at hq
        obtain ⟨v6, I6, J6⟩ := q6
        dsimp only at hq
        have f6 := fO_tr f0 (f33_8_frH e6)
        rcases bsp hq with ⟨-, hq⟩ | ⟨-, hq⟩
        ·
          cases hq
          exact f6
        ·
          cases hq
          exact f6
  ·
    generalize e8 : f33_8 I J 6 = q8 at hq
    obtain ⟨v8, I8, J8⟩ := q8
    dsimp only at hq
    have f8 := fO_tr f0 (f33_8_frH e8)
    cases hq
    exact f8
set_option maxRecDepth 100000 in
theorem f52_60_j29_frH {I : tI} {J : tJ} {s0 : Int32} {v : Int32} {I1 : tI} {J1 : tJ} (hq : f52_60_j29 I J s0 = (v, I1, J1)) : frO qfIH qfJH I I1 J J1 := by
  unfold f52_60_j29 at hq
  have f0 : frO qfIH qfJH I I J J := fO_refl
  rcases bsp hq with ⟨-, hq⟩ | ⟨-, hq⟩
  ·
    exact fO_tr f0 (f52_60_j72_frH hq)
  ·
    rcases bsp hq with ⟨-, hq⟩ | ⟨-, hq⟩
    ·
      exact fO_tr f0 (f52_60_j72_frH hq)
    ·
      generalize e4 : f127 I J (I 8 5) 21 24 = q4 at hq
      obtain ⟨v4, I4, J4⟩ := q4
      dsimp only at hq
      have f4 := fO_tr f0 (f127_frH e4)
      rcases bsp hq with ⟨-, hq⟩ | ⟨-, hq⟩
      ·
        exact fO_tr f4 (f52_60_j72_frH hq)
      ·
        generalize e6 : f33_8 I4 J4 2 = q6 at hq
        obtain ⟨v6, I6, J6⟩ := q6
        dsimp only at hq
        have f6 := fO_tr f4 (f33_8_frH e6)
        cases hq
        exact f6
set_option maxRecDepth 100000 in
theorem f52_60_j24_frH {I : tI} {J : tJ} {v : Int32} {I1 : tI} {J1 : tJ} (hq : f52_60_j24 I J = (v, I1, J1)) : frO qfIH qfJH I I1 J J1 := by
  unfold f52_60_j24 at hq
  have f0 : frO qfIH qfJH I I J J := fO_refl
  exact fO_tr f0 (f52_60_j29_frH hq)
set_option maxRecDepth 100000 in
theorem f52_60_frH {I : tI} {J : tJ} {v : Int32} {I1 : tI} {J1 : tJ} (hq : f52_60 I J = (v, I1, J1)) : frO qfIH qfJH I I1 J J1 := by
  unfold f52_60 at hq
  have f0 : frO qfIH qfJH I I J J := fO_refl
  rcases bsp hq with ⟨-, hq⟩ | ⟨-, hq⟩
  ·
    exact fO_tr f0 (f52_60_j24_frH hq)
  ·
    rcases bsp hq with ⟨-, hq⟩ | ⟨-, hq⟩
    ·
      exact fO_tr f0 (f52_60_j29_frH hq)
    ·
      exact fO_tr f0 (f52_60_j24_frH hq)
set_option maxRecDepth 100000 in
theorem f40_31_l3_frH {N : Nat} : ∀ (k : Nat) {I : tI} {J : tJ} {x1 : Int32} {x2 : Int64} {x4 : Int32} {kx : Nat} {y1 : Int32} {y2 : Int64} {y4 : Int32} {I1 : tI} {J1 : tJ}, f40_31_l3 N k I J x1 x2 x4 = some (kx, y1, y2, y4, I1, J1) → frO qfIH qfJH I I1 J J1
  | 0, _, _, _, _, _, _, _, _, _, _, _, hq => by cases hq
  | k + 1, I, J, x1, x2, x4, kx, y1, y2, y4, I1, J1, hq => by
    unfold f40_31_l3 at hq
    have f0 : frO qfIH qfJH I I J J := fO_refl
    rcases bsp hq with ⟨-, hq⟩ | ⟨-, hq⟩
    ·
      cases hq
      exact f0
    ·
      rcases bsp hq with ⟨-, hq⟩ | ⟨-, hq⟩
      ·
        cases hq
        exact f0
      ·
        rcases bsp hq with ⟨-, hq⟩ | ⟨-, hq⟩
        ·
          exact fO_tr f0 (f40_31_l3_frH k hq)
        ·
          cases hq
          exact f0
set_option maxRecDepth 100000 in
theorem f40_31_frH {N : Nat} {I : tI} {J : tJ} {a0 : Int32} {a1 : Int64} {v : Int32} {I1 : tI} {J1 : tJ} (hq : f40_31 N I J a0 a1 = some (v, I1, J1)) : frO qfIH qfJH I I1 J J1 := by
  unfold f40_31 at hq
  have f0 : frO qfIH qfJH I I J J := fO_refl
  cases e1 : f40_31_l3 N N I J a0 a1 0 with
  | none => rw [e1] at hq; cases hq
  | some Y =>
  obtain ⟨k1, y1_1, y1_2, y1_4, I1, J1⟩ := Y
  rw [e1] at hq
  dsimp only at hq
  have f1 := fO_tr f0 (f40_31_l3_frH N e1)
  rcases bsp hq with ⟨-, hq⟩ | ⟨-, hq⟩
  ·
    cases hq
    exact f1
  ·
    cases hq
    exact f1
set_option maxRecDepth 100000 in
theorem f39_8_31_frH {N : Nat} {I : tI} {J : tJ} {a0 : Int32} {v : Int32} {I1 : tI} {J1 : tJ} (hq : f39_8_31 N I J a0 = some (v, I1, J1)) : frO qfIH qfJH I I1 J J1 := by
  unfold f39_8_31 at hq
  have f0 : frO qfIH qfJH I I J J := fO_refl
  generalize e1 : f38_8 I J = q1 at hq
  obtain ⟨v1, I1, J1⟩ := q1
  dsimp only at hq
  have f1 := fO_tr f0 (f38_8_frH e1)
  rcases bsp hq with ⟨-, hq⟩ | ⟨-, hq⟩
  ·
    obtain ⟨v3, I3, J3, e3, hq⟩ := obI hq
    have f3 := fO_tr f1 (f40_31_frH e3)
    rcases bsp hq with ⟨-, hq⟩ | ⟨-, hq⟩
    ·
      cases hq
      exact (fO_I f3 rfl)
    ·
      generalize e5 : f33_8 (tup I3 8 8 v3) J3 3 = q5 at hq
      obtain ⟨v5, I5, J5⟩ := q5
      dsimp only at hq
      have f5 := fO_tr (fO_I f3 rfl) (f33_8_frH e5)
      rcases bsp hq with ⟨-, hq⟩ | ⟨-, hq⟩
      ·
        cases hq
        exact f5
      ·
        cases hq
        exact f5
  ·
    cases hq
    exact f1
set_option maxRecDepth 100000 in
theorem f73_61_frH {I : tI} {J : tJ} {a0 : Int32} {a1 : Int32} {a2 : Int32} {v : Unit} {I1 : tI} {J1 : tJ} (hq : f73_61 I J a0 a1 a2 = (v, I1, J1)) : frO qfIH qfJH I I1 J J1 := by
  unfold f73_61 at hq
  have f0 : frO qfIH qfJH I I J J := fO_refl
  rcases bsp hq with ⟨-, hq⟩ | ⟨-, hq⟩
  ·
    cases hq
    exact f0
  ·
    cases hq
    exact (fO_I (fO_I (fO_I (fO_I (fO_I f0 rfl) rfl) rfl) rfl) rfl)
set_option maxRecDepth 100000 in
theorem f56_60_10_frH {N : Nat} {I : tI} {J : tJ} {v : Int32} {I1 : tI} {J1 : tJ} (hq : f56_60_10 N I J = some (v, I1, J1)) : frO qfIH qfJH I I1 J J1 := by
  unfold f56_60_10 at hq
  have f0 : frO qfIH qfJH I I J J := fO_refl
  obtain ⟨v1, I1, J1, e1, hq⟩ := obI hq
  have f1 := fO_tr f0 (f39_8_31_frH e1)
  rcases bsp hq with ⟨-, hq⟩ | ⟨-, hq⟩
  ·
    obtain ⟨_, I3, J3, e3, hq⟩ := obU hq
    have f3 := fO_tr f1 (f25_8_frH e3)
    generalize e4 : f37_8 I3 J3 1 20 = q4 at hq
    obtain ⟨v4, I4, J4⟩ := q4
    dsimp only at hq
    have f4 := fO_tr f3 (f37_8_frH e4)
    rcases bsp hq with ⟨-, hq⟩ | ⟨-, hq⟩
    ·
      generalize e6 : f73_61 I4 J4 0 (I1 8 8) (I4 8 7) = q6 at hq
      obtain ⟨v6, I6, J6⟩ := q6
      dsimp only at hq
      have f6 := fO_tr f4 (f73_61_frH e6)
      obtain ⟨_, I7, J7, e7, hq⟩ := obU hq
      have f7 := fO_tr f6 (f25_8_frH e7)
      cases hq
      exact f7
    ·
      cases hq
      exact f4
  ·
    cases hq
    exact f1
set_option maxRecDepth 100000 in
theorem f57_60_frH {N : Nat} {I : tI} {J : tJ} {a0 : Int32} {a1 : Int32} {v : Int32} {I1 : tI} {J1 : tJ} (hq : f57_60 N I J a0 a1 = some (v, I1, J1)) : frO qfIH qfJH I I1 J J1 := by
  unfold f57_60 at hq
  have f0 : frO qfIH qfJH I I J J := fO_refl
  generalize e1 : f37_8 I J 1 a1 = q1 at hq
  obtain ⟨v1, I1, J1⟩ := q1
  dsimp only at hq
  have f1 := fO_tr f0 (f37_8_frH e1)
  rcases bsp hq with ⟨-, hq⟩ | ⟨-, hq⟩
  ·
    generalize e3 : f73_61 I1 J1 a0 (I1 8 7) 0 = q3 at hq
    obtain ⟨v3, I3, J3⟩ := q3
    dsimp only at hq
    have f3 := fO_tr f1 (f73_61_frH e3)
    obtain ⟨_, I4, J4, e4, hq⟩ := obU hq
    have f4 := fO_tr f3 (f25_8_frH e4)
    cases hq
    exact f4
  ·
    cases hq
    exact f1
set_option maxRecDepth 100000 in
theorem f58_60_10_frH {N : Nat} {I : tI} {J : tJ} {v : Int32} {I1 : tI} {J1 : tJ} (hq : f58_60_10 N I J = some (v, I1, J1)) : frO qfIH qfJH I I1 J J1 := by
  unfold f58_60_10 at hq
  have f0 : frO qfIH qfJH I I J J := fO_refl
  obtain ⟨v1, I1, J1, e1, hq⟩ := obI hq
  have f1 := fO_tr f0 (f39_8_31_frH e1)
  rcases bsp hq with ⟨-, hq⟩ | ⟨-, hq⟩
  ·
    obtain ⟨_, I3, J3, e3, hq⟩ := obU hq
    have f3 := fO_tr f1 (f25_8_frH e3)
    obtain ⟨v4, I4, J4, e4, hq⟩ := obI hq
    have f4 := fO_tr f3 (f39_8_31_frH e4)
    rcases bsp hq with ⟨-, hq⟩ | ⟨-, hq⟩
    ·
      generalize e6 : f73_61 I4 J4 2 (I1 8 8) (I4 8 8) = q6 at hq
      obtain ⟨v6, I6, J6⟩ := q6
      dsimp only at hq
      have f6 := fO_tr f4 (f73_61_frH e6)
      obtain ⟨_, I7, J7, e7, hq⟩ := obU hq
      have f7 := fO_tr f6 (f25_8_frH e7)
      cases hq
      exact f7
    ·
      cases hq
      exact f4
  ·
    cases hq
    exact f1
set_option maxRecDepth 100000 in
theorem f55_60_frH {I : tI} {J : tJ} {v : Unit} {I1 : tI} {J1 : tJ} (hq : f55_60 I J = (v, I1, J1)) : frO qfIH qfJH I I1 J J1 := by
  unfold f55_60 at hq
  have f0 : frO qfIH qfJH I I J J := fO_refl
  rcases bsp hq with ⟨-, hq⟩ | ⟨-, hq⟩
  ·
    cases hq
    exact f0
  ·
    cases hq
    exact (fO_I (fO_I f0 rfl) rfl)
set_option maxRecDepth 100000 in
theorem f40_13_l3_frH {N : Nat} : ∀ (k : Nat) {I : tI} {J : tJ} {x1 : Int32} {x2 : Int64} {x4 : Int32} {kx : Nat} {y1 : Int32} {y2 : Int64} {y4 : Int32} {I1 : tI} {J1 : tJ}, f40_13_l3 N k I J x1 x2 x4 = some (kx, y1, y2, y4, I1, J1) → frO qfIH qfJH I I1 J J1
  | 0, _, _, _, _, _, _, _, _, _, _, _, hq => by cases hq
  | k + 1, I, J, x1, x2, x4, kx, y1, y2, y4, I1, J1, hq => by
    unfold f40_13_l3 at hq
    have f0 : frO qfIH qfJH I I J J := fO_refl
    rcases bsp hq with ⟨-, hq⟩ | ⟨-, hq⟩
    ·
      cases hq
      exact f0
    ·
      rcases bsp hq with ⟨-, hq⟩ | ⟨-, hq⟩
      ·
        cases hq
        exact f0
      ·
        rcases bsp hq with ⟨-, hq⟩ | ⟨-, hq⟩
        ·
          exact fO_tr f0 (f40_13_l3_frH k hq)
        ·
          cases hq
          exact f0
set_option maxRecDepth 100000 in
theorem f40_13_frH {N : Nat} {I : tI} {J : tJ} {a0 : Int32} {a1 : Int64} {v : Int32} {I1 : tI} {J1 : tJ} (hq : f40_13 N I J a0 a1 = some (v, I1, J1)) : frO qfIH qfJH I I1 J J1 := by
  unfold f40_13 at hq
  have f0 : frO qfIH qfJH I I J J := fO_refl
  cases e1 : f40_13_l3 N N I J a0 a1 0 with
  | none => rw [e1] at hq; cases hq
  | some Y =>
  obtain ⟨k1, y1_1, y1_2, y1_4, I1, J1⟩ := Y
  rw [e1] at hq
  dsimp only at hq
  have f1 := fO_tr f0 (f40_13_l3_frH N e1)
  rcases bsp hq with ⟨-, hq⟩ | ⟨-, hq⟩
  ·
    cases hq
    exact f1
  ·
    cases hq
    exact f1
set_option maxRecDepth 100000 in
theorem f39_8_13_frH {N : Nat} {I : tI} {J : tJ} {a0 : Int32} {v : Int32} {I1 : tI} {J1 : tJ} (hq : f39_8_13 N I J a0 = some (v, I1, J1)) : frO qfIH qfJH I I1 J J1 := by
  unfold f39_8_13 at hq
  have f0 : frO qfIH qfJH I I J J := fO_refl
  generalize e1 : f38_8 I J = q1 at hq
  obtain ⟨v1, I1, J1⟩ := q1
  dsimp only at hq
  have f1 := fO_tr f0 (f38_8_frH e1)
  rcases bsp hq with ⟨-, hq⟩ | ⟨-, hq⟩
  ·
    obtain ⟨v3, I3, J3, e3, hq⟩ := obI hq
    have f3 := fO_tr f1 (f40_13_frH e3)
    rcases bsp hq with ⟨-, hq⟩ | ⟨-, hq⟩
    ·
      cases hq
      exact (fO_I f3 rfl)
    ·
      generalize e5 : f33_8 (tup I3 8 8 v3) J3 3 = q5 at hq
      obtain ⟨v5, I5, J5⟩ := q5
      dsimp only at hq
      have f5 := fO_tr (fO_I f3 rfl) (f33_8_frH e5)
      rcases bsp hq with ⟨-, hq⟩ | ⟨-, hq⟩
      ·
        cases hq
        exact f5
      ·
        cases hq
        exact f5
  ·
    cases hq
    exact f1
set_option maxRecDepth 100000 in
theorem f59_60_10_j107_frH {N : Nat} {I : tI} {J : tJ} {x3 : Int32} {s0 : Int32} {v : Int32} {I1 : tI} {J1 : tJ} (hq : f59_60_10_j107 N I J x3 s0 = some (v, I1, J1)) : frO qfIH qfJH I I1 J J1 := by
  unfold f59_60_10_j107 at hq
  have f0 : frO qfIH qfJH I I J J := fO_refl
  rcases bsp hq with ⟨-, hq⟩ | ⟨-, hq⟩
  ·
    rcases bsp hq with ⟨-, hq⟩ | ⟨-, hq⟩
    ·
      generalize e9 : f73_61 I J 7 (I 8 8) 0 = q9 at hq
      obtain ⟨v9, I9, J9⟩ := q9
      dsimp only at hq
      have f9 := fO_tr f0 (f73_61_frH e9)
      obtain ⟨_, I10, J10, e10, hq⟩ := obU hq
      have f10 := fO_tr f9 (f25_8_frH e10)
      cases hq
      exact f10
    ·
      generalize e11 : f73_61 I J 6 (I 8 8) 0 = q11 at hq
      obtain ⟨v11, I11, J11⟩ := q11
      dsimp only at hq
      have f11 := fO_tr f0 (f73_61_frH e11)
      obtain ⟨_, I12, J12, e12, hq⟩ := obU hq
      have f12 := fO_tr f11 (f25_8_frH e12)
      cases hq
      exact f12
  ·
    cases hq
    exact f0
set_option maxRecDepth 100000 in
theorem f40_22_l3_frH {N : Nat} : ∀ (k : Nat) {I : tI} {J : tJ} {x1 : Int32} {x2 : Int64} {x4 : Int32} {kx : Nat} {y1 : Int32} {y2 : Int64} {y4 : Int32} {I1 : tI} {J1 : tJ}, f40_22_l3 N k I J x1 x2 x4 = some (kx, y1, y2, y4, I1, J1) → frO qfIH qfJH I I1 J J1
  | 0, _, _, _, _, _, _, _, _, _, _, _, hq => by cases hq
  | k + 1, I, J, x1, x2, x4, kx, y1, y2, y4, I1, J1, hq => by
    unfold f40_22_l3 at hq
    have f0 : frO qfIH qfJH I I J J := fO_refl
    rcases bsp hq with ⟨-, hq⟩ | ⟨-, hq⟩
    ·
      cases hq
      exact f0
    ·
      rcases bsp hq with ⟨-, hq⟩ | ⟨-, hq⟩
      ·
        cases hq
        exact f0
      ·
        rcases bsp hq with ⟨-, hq⟩ | ⟨-, hq⟩
        ·
          exact fO_tr f0 (f40_22_l3_frH k hq)
        ·
          cases hq
          exact f0
set_option maxRecDepth 100000 in
theorem f40_22_frH {N : Nat} {I : tI} {J : tJ} {a0 : Int32} {a1 : Int64} {v : Int32} {I1 : tI} {J1 : tJ} (hq : f40_22 N I J a0 a1 = some (v, I1, J1)) : frO qfIH qfJH I I1 J J1 := by
  unfold f40_22 at hq
  have f0 : frO qfIH qfJH I I J J := fO_refl
  cases e1 : f40_22_l3 N N I J a0 a1 0 with
  | none => rw [e1] at hq; cases hq
  | some Y =>
  obtain ⟨k1, y1_1, y1_2, y1_4, I1, J1⟩ := Y
  rw [e1] at hq
  dsimp only at hq
  have f1 := fO_tr f0 (f40_22_l3_frH N e1)
  rcases bsp hq with ⟨-, hq⟩ | ⟨-, hq⟩
  ·
    cases hq
    exact f1
  ·
    cases hq
    exact f1
set_option maxRecDepth 100000 in
theorem f39_8_22_frH {N : Nat} {I : tI} {J : tJ} {a0 : Int32} {v : Int32} {I1 : tI} {J1 : tJ} (hq : f39_8_22 N I J a0 = some (v, I1, J1)) : frO qfIH qfJH I I1 J J1 := by
  unfold f39_8_22 at hq
  have f0 : frO qfIH qfJH I I J J := fO_refl
  generalize e1 : f38_8 I J = q1 at hq
  obtain ⟨v1, I1, J1⟩ := q1
  dsimp only at hq
  have f1 := fO_tr f0 (f38_8_frH e1)
  rcases bsp hq with ⟨-, hq⟩ | ⟨-, hq⟩
  ·
    obtain ⟨v3, I3, J3, e3, hq⟩ := obI hq
    have f3 := fO_tr f1 (f40_22_frH e3)
    rcases bsp hq with ⟨-, hq⟩ | ⟨-, hq⟩
    ·
      cases hq
      exact (fO_I f3 rfl)
    ·
      generalize e5 : f33_8 (tup I3 8 8 v3) J3 3 = q5 at hq
      obtain ⟨v5, I5, J5⟩ := q5
      dsimp only at hq
      have f5 := fO_tr (fO_I f3 rfl) (f33_8_frH e5)
      rcases bsp hq with ⟨-, hq⟩ | ⟨-, hq⟩
      ·
        cases hq
        exact f5
      ·
        cases hq
        exact f5
  ·
    cases hq
    exact f1
set_option maxRecDepth 100000 in
theorem f59_60_10_j51_frH {N : Nat} {I : tI} {J : tJ} {x3 : Int32} {v : Int32} {I1 : tI} {J1 : tJ} (hq : f59_60_10_j51 N I J x3 = some (v, I1, J1)) : frO qfIH qfJH I I1 J J1 := by
  unfold f59_60_10_j51 at hq
  have f0 : frO qfIH qfJH I I J J := fO_refl
  obtain ⟨_, I4, J4, e4, hq⟩ := obU hq
  have f4 := fO_tr f0 (f25_8_frH e4)
  rcases bsp hq with ⟨-, hq⟩ | ⟨-, hq⟩
  ·
    obtain ⟨v6, I6, J6, e6, hq⟩ := obI hq
    have f6 := fO_tr f4 (f39_8_13_frH e6)
    exact fO_tr f6 (f59_60_10_j107_frH hq)
  ·
    obtain ⟨v7, I7, J7, e7, hq⟩ := obI hq
    have f7 := fO_tr f4 (f39_8_22_frH e7)
    exact fO_tr f7 (f59_60_10_j107_frH hq)
set_option maxRecDepth 100000 in
theorem f59_60_10_j31_frH {N : Nat} {I : tI} {J : tJ} {x2 : Int32} {s0 : Int32} {v : Int32} {I1 : tI} {J1 : tJ} (hq : f59_60_10_j31 N I J x2 s0 = some (v, I1, J1)) : frO qfIH qfJH I I1 J J1 := by
  unfold f59_60_10_j31 at hq
  have f0 : frO qfIH qfJH I I J J := fO_refl
  rcases bsp hq with ⟨-, hq⟩ | ⟨-, hq⟩
  ·
    exact fO_tr f0 (f59_60_10_j51_frH hq)
  ·
    rcases bsp hq with ⟨-, hq⟩ | ⟨-, hq⟩
    ·
      exact fO_tr f0 (f59_60_10_j51_frH hq)
    ·
      generalize e5 : f33_8 I J 2 = q5 at hq
      obtain ⟨v5, I5, J5⟩ := q5
      dsimp only at hq
      have f5 := fO_tr f0 (f33_8_frH e5)
      cases hq
      exact f5
set_option maxRecDepth 100000 in
theorem f36_8_frH {I : tI} {J : tJ} {v : Int32} {I1 : tI} {J1 : tJ} (hq : f36_8 I J = (v, I1, J1)) : frO qfIH qfJH I I1 J J1 := by
  unfold f36_8 at hq
  have f0 : frO qfIH qfJH I I J J := fO_refl
  rcases bsp hq with ⟨-, hq⟩ | ⟨-, hq⟩
  ·
    generalize e2 : f33_8 I J 2 = q2 at hq
    obtain ⟨v2, I2, J2⟩ := q2
    dsimp only at hq
    have f2 := fO_tr f0 (f33_8_frH e2)
    rcases bsp hq with ⟨-, hq⟩ | ⟨-, hq⟩
    ·
      cases hq
      exact f2
    ·
      cases hq
      exact f2
  ·
    rcases bsp hq with ⟨-, hq⟩ | ⟨-, hq⟩
    ·
      cases hq
      exact f0
    ·
      generalize e5 : f33_8 I J 2 = q5 at hq
      obtain ⟨v5, I5, J5⟩ := q5
      dsimp only at hq
      have f5 := fO_tr f0 (f33_8_frH e5)
      rcases bsp hq with ⟨-, hq⟩ | ⟨-, hq⟩
      ·
        cases hq
        exact f5
      ·
        cases hq
        exact f5
set_option maxRecDepth 100000 in
theorem f60_60_10_j90_frH {N : Nat} {I : tI} {J : tJ} {x2 : Int32} {s0 : Int32} {v : Int32} {I1 : tI} {J1 : tJ} (hq : f60_60_10_j90 N I J x2 s0 = some (v, I1, J1)) : frO qfIH qfJH I I1 J J1 := by
  unfold f60_60_10_j90 at hq
  have f0 : frO qfIH qfJH I I J J := fO_refl
  obtain ⟨_, I9, J9, e9, hq⟩ := obU hq
  have f9 := fO_tr f0 (f25_8_frH e9)
  generalize e10 : f37_8 I9 J9 0 9999 = q10 at hq
  obtain ⟨v10, I10, J10⟩ := q10
  dsimp only at hq
  have f10 := fO_tr f9 (f37_8_frH e10)
  rcases bsp hq with ⟨-, hq⟩ | ⟨-, hq⟩
  ·
    generalize e12 : f73_61 I10 J10 s0 x2 (I10 8 7) = q12 at hq
    obtain ⟨v12, I12, J12⟩ := q12
    dsimp only at hq
    have f12 := fO_tr f10 (f73_61_frH e12)
    obtain ⟨_, I13, J13, e13, hq⟩ := obU hq
    have f13 := fO_tr f12 (f25_8_frH e13)
    cases hq
    exact f13
  ·
    cases hq
    exact f10
set_option maxRecDepth 100000 in
theorem f60_60_10_frH {N : Nat} {I : tI} {J : tJ} {v : Int32} {I1 : tI} {J1 : tJ} (hq : f60_60_10 N I J = some (v, I1, J1)) : frO qfIH qfJH I I1 J J1 := by
  unfold f60_60_10 at hq
  have f0 : frO qfIH qfJH I I J J := fO_refl
  obtain ⟨_, I1, J1, e1, hq⟩ := obU hq
  have f1 := fO_tr f0 (f25_8_frH e1)
  obtain ⟨v2, I2, J2, e2, hq⟩ := obI hq
  have f2 := fO_tr f1 (f39_8_31_frH e2)
  rcases bsp hq with ⟨-, hq⟩ | ⟨-, hq⟩
  ·
    obtain ⟨_, I4, J4, e4, hq⟩ := obU hq
    have f4 := fO_tr f2 (f25_8_frH e4)
    generalize e5 : f36_8 I4 J4 = q5 at hq
    obtain ⟨v5, I5, J5⟩ := q5
    dsimp only at hq
    have f5 := fO_tr f4 (f36_8_frH e5)
    rcases bsp hq with ⟨-, hq⟩ | ⟨-, hq⟩
    ·
      rcases bsp hq with ⟨-, hq⟩ | ⟨-, hq⟩
      ·
        rcases bsp hq with ⟨-, hq⟩ | ⟨-, hq⟩
        ·
          exact fO_tr f5 (f60_60_10_j90_frH hq)
        ·
          exact fO_tr f5 (f60_60_10_j90_frH hq)
      ·
        exact fO_tr f5 (f60_60_10_j90_frH hq)
    ·
      cases hq
      exact f5
  ·
    cases hq
    exact f2
set_option maxRecDepth 100000 in
theorem f59_60_10_frH {N : Nat} {I : tI} {J : tJ} {v : Int32} {I1 : tI} {J1 : tJ} (hq : f59_60_10 N I J = some (v, I1, J1)) : frO qfIH qfJH I I1 J J1 := by
  unfold f59_60_10 at hq
  have f0 : frO qfIH qfJH I I J J := fO_refl
  rcases bsp hq with ⟨-, hq⟩ | ⟨-, hq⟩
  ·
    rcases bsp hq with ⟨-, hq⟩ | ⟨-, hq⟩
    ·
      exact fO_tr f0 (f59_60_10_j31_frH hq)
    ·
      exact fO_tr f0 (f59_60_10_j31_frH hq)
  ·
    obtain ⟨v3, I3, J3, e3, hq⟩ := obI hq
    have f3 := fO_tr f0 (f60_60_10_frH e3)
    cases hq
    exact f3
set_option maxRecDepth 100000 in
theorem f54_60_10_frH {N : Nat} {I : tI} {J : tJ} {v : Int32} {I1 : tI} {J1 : tJ} (hq : f54_60_10 N I J = some (v, I1, J1)) : frO qfIH qfJH I I1 J J1 := by
  unfold f54_60_10 at hq
  have f0 : frO qfIH qfJH I I J J := fO_refl
  obtain ⟨_, I1, J1, e1, hq⟩ := obU hq
  have f1 := fO_tr (fO_I f0 rfl) (f25_8_frH e1)
  rcases bsp hq with ⟨-, hq⟩ | ⟨-, hq⟩
  ·
    obtain ⟨v3, I3, J3, e3, hq⟩ := obI hq
    have f3 := fO_tr f1 (f56_60_10_frH e3)
    cases hq
    exact f3
  ·
    rcases bsp hq with ⟨-, hq⟩ | ⟨-, hq⟩
    ·
      obtain ⟨v5, I5, J5, e5, hq⟩ := obI hq
      have f5 := fO_tr f1 (f57_60_frH e5)
      cases hq
      exact f5
    ·
      rcases bsp hq with ⟨-, hq⟩ | ⟨-, hq⟩
      ·
        obtain ⟨v7, I7, J7, e7, hq⟩ := obI hq
        have f7 := fO_tr f1 (f58_60_10_frH e7)
        cases hq
        exact f7
      ·
        rcases bsp hq with ⟨-, hq⟩ | ⟨-, hq⟩
        ·
          generalize e9 : f73_61 I1 J1 3 0 0 = q9 at hq
          obtain ⟨v9, I9, J9⟩ := q9
          dsimp only at hq
          have f9 := fO_tr f1 (f73_61_frH e9)
          cases hq
          exact f9
        ·
          rcases bsp hq with ⟨-, hq⟩ | ⟨-, hq⟩
          ·
            generalize e11 : f55_60 I1 J1 = q11 at hq
            obtain ⟨v11, I11, J11⟩ := q11
            dsimp only at hq
            have f11 := fO_tr f1 (f55_60_frH e11)
            obtain ⟨v12, I12, J12, e12, hq⟩ := obI hq
            have f12 := fO_tr f11 (f59_60_10_frH e12)
            cases hq
            exact f12
          ·
            rcases bsp hq with ⟨-, hq⟩ | ⟨-, hq⟩
            ·
              generalize e14 : f55_60 I1 J1 = q14 at hq
              obtain ⟨v14, I14, J14⟩ := q14
              dsimp only at hq
              have f14 := fO_tr f1 (f55_60_frH e14)
              obtain ⟨v15, I15, J15, e15, hq⟩ := obI hq
              have f15 := fO_tr f14 (f57_60_frH e15)
              cases hq
              exact f15
            ·
              generalize e16 : f73_61 I1 J1 4 0 0 = q16 at hq
              obtain ⟨v16, I16, J16⟩ := q16
              dsimp only at hq
              have f16 := fO_tr f1 (f73_61_frH e16)
              cases hq
              exact f16
set_option maxRecDepth 100000 in
theorem f53_60_frH {N : Nat} {I : tI} {J : tJ} {v : Int32} {I1 : tI} {J1 : tJ} (hq : f53_60 N I J = some (v, I1, J1)) : frO qfIH qfJH I I1 J J1 := by
  unfold f53_60 at hq
  have f0 : frO qfIH qfJH I I J J := fO_refl
  rcases bsp hq with ⟨-, hq⟩ | ⟨-, hq⟩
  ·
    generalize e2 : f73_61 (tup (tup I 60 3 ((I 60 3) - 1)) 65 (((I 66 ((((I 60 3) - 1))).toNatClampNeg)).toNatClampNeg) (I 61 2)) J 11 0 0 = q2 at hq
    obtain ⟨v2, I2, J2⟩ := q2
    dsimp only at hq
    have f2 := fO_tr (fO_I (fO_I f0 rfl) rfl) (f73_61_frH e2)
    obtain ⟨_, I3, J3, e3, hq⟩ := obU hq
    have f3 := fO_tr (fO_I f2 rfl) (f25_8_frH e3)
    cases hq
    exact f3
  ·
    generalize e4 : f33_8 I J 2 = q4 at hq
    obtain ⟨v4, I4, J4⟩ := q4
    dsimp only at hq
    have f4 := fO_tr f0 (f33_8_frH e4)
    cases hq
    exact f4
set_option maxRecDepth 100000 in
theorem f51_60_10_l25_frH {N : Nat} : ∀ (k : Nat) {I : tI} {J : tJ} {x3 : Int32} {x4 : Int32} {y3 : Int32} {y4 : Int32} {I1 : tI} {J1 : tJ}, f51_60_10_l25 N k I J x3 x4 = some (y3, y4, I1, J1) → frO qfIH qfJH I I1 J J1
  | 0, _, _, _, _, _, _, _, _, hq => by cases hq
  | k + 1, I, J, x3, x4, y3, y4, I1, J1, hq => by
    unfold f51_60_10_l25 at hq
    have f0 : frO qfIH qfJH I I J J := fO_refl
    rcases bsp hq with ⟨-, hq⟩ | ⟨-, hq⟩
    ·
      cases hq
      exact f0
    ·
      rcases bsp hq with ⟨-, hq⟩ | ⟨-, hq⟩
      ·
        cases hq
        exact f0
      ·
        generalize e5 : f32_8 I J = q5 at hq
        obtain ⟨v5, I5, J5⟩ := q5
        dsimp only at hq
        have f5 := fO_tr f0 (f32_8_frH e5)
        rcases bsp hq with ⟨-, hq⟩ | ⟨-, hq⟩
        ·
          cases hq
          exact f5
        ·
          rcases bsp hq with ⟨-, hq⟩ | ⟨-, hq⟩
          ·
            generalize e8 : f52_60 I5 J5 = q8 at hq
            obtain ⟨v8, I8, J8⟩ := q8
            dsimp only at hq
            have f8 := fO_tr f5 (f52_60_frH e8)
            rcases bsp hq with ⟨-, hq⟩ | ⟨-, hq⟩
            ·
              rcases bsp hq with ⟨-, hq⟩ | ⟨-, hq⟩
              ·
                exact fO_tr f8 (f51_60_10_l25_frH k hq)
              ·
                obtain ⟨v11, I11, J11, e11, hq⟩ := obI hq
                have f11 := fO_tr f8 (f35_8_frH e11)
                rcases bsp hq with ⟨-, hq⟩ | ⟨-, hq⟩
                ·
                  exact fO_tr f11 (f51_60_10_l25_frH k hq)
                ·
                  exact fO_tr f11 (f51_60_10_l25_frH k hq)
            ·
              obtain ⟨v13, I13, J13, e13, hq⟩ := obI hq
              have f13 := fO_tr f8 (f54_60_10_frH e13)
              rcases bsp hq with ⟨-, hq⟩ | ⟨-, hq⟩
              ·
                rcases bsp hq with ⟨-, hq⟩ | ⟨-, hq⟩
                ·
                  exact fO_tr f13 (f51_60_10_l25_frH k hq)
                ·
                  obtain ⟨v16, I16, J16, e16, hq⟩ := obI hq
                  have f16 := fO_tr f13 (f35_8_frH e16)
                  rcases bsp hq with ⟨-, hq⟩ | ⟨-, hq⟩
                  ·
                    exact fO_tr f16 (f51_60_10_l25_frH k hq)
                  ·
                    exact fO_tr f16 (f51_60_10_l25_frH k hq)
              ·
                rcases bsp hq with ⟨-, hq⟩ | ⟨-, hq⟩
                ·
                  exact fO_tr f13 (f51_60_10_l25_frH k hq)
                ·
                  obtain ⟨v19, I19, J19, e19, hq⟩ := obI hq
                  have f19 := fO_tr f13 (f35_8_frH e19)
                  rcases bsp hq with ⟨-, hq⟩ | ⟨-, hq⟩
                  ·
                    exact fO_tr f19 (f51_60_10_l25_frH k hq)
                  ·
                    exact fO_tr f19 (f51_60_10_l25_frH k hq)
          ·
            obtain ⟨v21, I21, J21, e21, hq⟩ := obI hq
            have f21 := fO_tr f5 (f53_60_frH e21)
            rcases bsp hq with ⟨-, hq⟩ | ⟨-, hq⟩
            ·
              exact fO_tr f21 (f51_60_10_l25_frH k hq)
            ·
              obtain ⟨v23, I23, J23, e23, hq⟩ := obI hq
              have f23 := fO_tr f21 (f35_8_frH e23)
              rcases bsp hq with ⟨-, hq⟩ | ⟨-, hq⟩
              ·
                exact fO_tr f23 (f51_60_10_l25_frH k hq)
              ·
                exact fO_tr f23 (f51_60_10_l25_frH k hq)
set_option maxRecDepth 100000 in
theorem f51_60_10_j113_frH {N : Nat} {I : tI} {J : tJ} {x3 : Int32} {v : Int32} {I1 : tI} {J1 : tJ} (hq : f51_60_10_j113 N I J x3 = some (v, I1, J1)) : frO qfIH qfJH I I1 J J1 := by
  unfold f51_60_10_j113 at hq
  have f0 : frO qfIH qfJH I I J J := fO_refl
  rcases bsp hq with ⟨-, hq⟩ | ⟨-, hq⟩
  ·
    cases hq
    exact (fO_I f0 rfl)
  ·
    rcases bsp hq with ⟨-, hq⟩ | ⟨-, hq⟩
    ·
      cases hq
      exact (fO_I f0 rfl)
    ·
      generalize e6 : f33_8 (tup I 61 0 1) J 2 = q6 at hq
      obtain ⟨v6, I6, J6⟩ := q6
      dsimp only at hq
      have f6 := fO_tr (fO_I f0 rfl) (f33_8_frH e6)
      rcases bsp hq with ⟨-, hq⟩ | ⟨-, hq⟩
      ·
        cases hq
        exact f6
      ·
        cases hq
        exact f6
set_option maxRecDepth 100000 in
theorem f51_60_10_frH {N : Nat} {I : tI} {J : tJ} {a0 : Int32} {v : Int32} {I1 : tI} {J1 : tJ} (hq : f51_60_10 N I J a0 = some (v, I1, J1)) : frO qfIH qfJH I I1 J J1 := by
  unfold f51_60_10 at hq
  have f0 : frO qfIH qfJH I I J J := fO_refl
  generalize e1 : f71_61 I J = q1 at hq
  obtain ⟨v1, I1, J1⟩ := q1
  dsimp only at hq
  have f1 := fO_tr f0 (f71_61_frH e1)
  obtain ⟨_, I2, J2, e2, hq⟩ := obU hq
  have f2 := fO_tr (fO_I f1 rfl) (f24_8_frH e2)
  cases e3 : f51_60_10_l25 N N I2 J2 1 0 with
  | none => rw [e3] at hq; cases hq
  | some Y =>
  obtain ⟨y3_3, y3_4, I3, J3⟩ := Y
  rw [e3] at hq
  dsimp only at hq
  have f3 := fO_tr f2 (f51_60_10_l25_frH N e3)
  exact fO_tr f3 (f51_60_10_j113_frH hq)
