/-! WHAT FUNCTIONS LEAVE ALONE, by objects and places -/
def frO (p q : Nat → Nat → Bool) (I I' : tI) (J J' : tJ) : Prop := (∀ o k, p o k = false → I' o k = I o k) ∧ ∀ o k, q o k = false → J' o k = J o k
section FO
variable {p q : Nat → Nat → Bool} {I I1 I2 : tI} {J J1 J2 : tJ} {o k : Nat}
theorem fO_refl : frO p q I I J J := ⟨fun _ _ _ => rfl, fun _ _ _ => rfl⟩
theorem fO_tr (h : frO p q I I1 J J1) (h' : frO p q I1 I2 J1 J2) : frO p q I I2 J J2 := ⟨fun o k ho => by rw [h'.1 o k ho]; exact h.1 o k ho, fun o k ho => by rw [h'.2 o k ho]; exact h.2 o k ho⟩
theorem fO_I {v : Int32} (h : frO p q I I1 J J1) (ho : p o k = true) : frO p q I (tup I1 o k v) J J1 := ⟨fun o' k' h' => by
  rw [tup_ne (fun e => by rw [e.1, e.2, ho] at h'; cases h')]
  exact h.1 o' k' h', h.2⟩
theorem fO_J {v : Int64} (h : frO p q I I1 J J1) (ho : q o k = true) : frO p q I I1 J (tup J1 o k v) := ⟨h.1, fun o' k' h' => by
  rw [tup_ne (fun e => by rw [e.1, e.2, ho] at h'; cases h')]
  exact h.2 o' k' h'⟩
theorem fO_cI {dp s sp n : Nat} (h : frO p q I I1 J J1) (ho : ∀ k, p o k = true) : frO p q I (tcp I1 o dp s sp n) J J1 := ⟨fun o' k' h' => by
  unfold tcp
  rw [if_neg (fun e => by rw [e.1, ho] at h'; cases h')]
  exact h.1 o' k' h', h.2⟩
theorem fO_cJ {dp s sp n : Nat} (h : frO p q I I1 J J1) (ho : ∀ k, q o k = true) : frO p q I I1 J (tcp J1 o dp s sp n) := ⟨h.1, fun o' k' h' => by
  unfold tcp
  rw [if_neg (fun e => by rw [e.1, ho] at h'; cases h')]
  exact h.2 o' k' h'⟩
theorem fO_mono {p' q' : Nat → Nat → Bool} (h : frO p q I I1 J J1) (hp : ∀ o k, p' o k = false → p o k = false) (hq : ∀ o k, q' o k = false → q o k = false) : frO p' q' I I1 J J1 := ⟨fun o k ho => h.1 o k (hp o k ho), fun o k ho => h.2 o k (hq o k ho)⟩
theorem bsp {α : Type} {c : Bool} {A B Y : α} (h : (bif c then A else B) = Y) : (c = true ∧ A = Y) ∨ (c = false ∧ B = Y) := by
  cases c
  · exact Or.inr ⟨rfl, h⟩
  · exact Or.inl ⟨rfl, h⟩
end FO
def qfIA : Nat → Nat → Bool := fun o _ => Nat.beq o 8 || (Nat.ble 35 o && Nat.ble o 59)
def qfJA : Nat → Nat → Bool := fun o _ => Nat.beq o 8 || (Nat.ble 35 o && Nat.ble o 59)
set_option maxRecDepth 100000 in
theorem f127_frA {I : tI} {J : tJ} {a0 : Int32} {a1 : Int32} {a2 : Int32} {v : Int32} {I1 : tI} {J1 : tJ} (hq : f127 I J a0 a1 a2 = (v, I1, J1)) : frO qfIA qfJA I I1 J J1 := by
  unfold f127 at hq
  have f0 : frO qfIA qfJA I I J J := fO_refl
  rcases bsp hq with ⟨-, hq⟩ | ⟨-, hq⟩
  ·
    cases hq
    exact f0
  ·
    rcases bsp hq with ⟨-, hq⟩ | ⟨-, hq⟩
    ·
      cases hq
      exact f0
    ·
      cases hq
      exact f0
set_option maxRecDepth 100000 in
theorem f71_52_frA {I : tI} {J : tJ} {v : Unit} {I1 : tI} {J1 : tJ} (hq : f71_52 I J = (v, I1, J1)) : frO qfIA qfJA I I1 J J1 := by
  unfold f71_52 at hq
  have f0 : frO qfIA qfJA I I J J := fO_refl
  cases hq
  exact (fO_I (fO_I (fO_I f0 rfl) rfl) rfl)
set_option maxRecDepth 100000 in
theorem f355_59_l5_frA {N : Nat} : ∀ (k : Nat) {I : tI} {J : tJ} {x1 : Int32} {x2 : Int32} {x3 : Int32} {y1 : Int32} {y2 : Int32} {y3 : Int32} {I1 : tI} {J1 : tJ}, f355_59_l5 N k I J x1 x2 x3 = some (y1, y2, y3, I1, J1) → frO qfIA qfJA I I1 J J1
  | 0, _, _, _, _, _, _, _, _, _, _, hq => by cases hq
  | k + 1, I, J, x1, x2, x3, y1, y2, y3, I1, J1, hq => by
    unfold f355_59_l5 at hq
    have f0 : frO qfIA qfJA I I J J := fO_refl
    rcases bsp hq with ⟨-, hq⟩ | ⟨-, hq⟩
    ·
      cases hq
      exact f0
    ·
      exact fO_tr (fO_I f0 rfl) (f355_59_l5_frA k hq)
set_option maxRecDepth 100000 in
theorem f355_59_frA {N : Nat} {I : tI} {J : tJ} {a0 : Int32} {v : Unit} {I1 : tI} {J1 : tJ} (hq : f355_59 N I J a0 = some (v, I1, J1)) : frO qfIA qfJA I I1 J J1 := by
  unfold f355_59 at hq
  have f0 : frO qfIA qfJA I I J J := fO_refl
  cases e1 : f355_59_l5 N N I J a0 0 121 with
  | none => rw [e1] at hq; cases hq
  | some Y =>
  obtain ⟨y1_1, y1_2, y1_3, I1, J1⟩ := Y
  rw [e1] at hq
  dsimp only at hq
  have f1 := fO_tr f0 (f355_59_l5_frA N e1)
  cases hq
  exact f1
set_option maxRecDepth 100000 in
theorem f104_36_frA {N : Nat} {I : tI} {J : tJ} {v : Unit} {I1 : tI} {J1 : tJ} (hq : f104_36 N I J = some (v, I1, J1)) : frO qfIA qfJA I I1 J J1 := by
  unfold f104_36 at hq
  have f0 : frO qfIA qfJA I I J J := fO_refl
  generalize e1 : f71_52 (tup (tup (tup (tup (tup I 37 0 0) 37 1 0) 38 0 0) 38 1 0) 47 0 0) (tup J 37 2 0) = q1 at hq
  obtain ⟨v1, I1, J1⟩ := q1
  dsimp only at hq
  have f1 := fO_tr (fO_J (fO_I (fO_I (fO_I (fO_I (fO_I f0 rfl) rfl) rfl) rfl) rfl) rfl) (f71_52_frA e1)
  obtain ⟨_, I2, J2, e2, hq⟩ := obU hq
  have f2 := fO_tr (fO_I (fO_I (fO_I f1 rfl) rfl) rfl) (f355_59_frA e2)
  cases hq
  exact f2
set_option maxRecDepth 100000 in
theorem f25_8_l8_frA {N : Nat} : ∀ (k : Nat) {I : tI} {J : tJ} {I1 : tI} {J1 : tJ}, f25_8_l8 N k I J = some (I1, J1) → frO qfIA qfJA I I1 J J1
  | 0, _, _, _, _, hq => by cases hq
  | k + 1, I, J, I1, J1, hq => by
    unfold f25_8_l8 at hq
    have f0 : frO qfIA qfJA I I J J := fO_refl
    rcases bsp hq with ⟨-, hq⟩ | ⟨-, hq⟩
    ·
      cases hq
      exact f0
    ·
      rcases bsp hq with ⟨-, hq⟩ | ⟨-, hq⟩
      ·
        exact fO_tr (fO_I f0 rfl) (f25_8_l8_frA k hq)
      ·
        rcases bsp hq with ⟨-, hq⟩ | ⟨-, hq⟩
        ·
          cases hq
          exact f0
        ·
          exact fO_tr (fO_I f0 rfl) (f25_8_l8_frA k hq)
set_option maxRecDepth 100000 in
theorem f26_8_frA {I : tI} {J : tJ} {a0 : Int32} {v : Int32} {I1 : tI} {J1 : tJ} (hq : f26_8 I J a0 = (v, I1, J1)) : frO qfIA qfJA I I1 J J1 := by
  unfold f26_8 at hq
  have f0 : frO qfIA qfJA I I J J := fO_refl
  rcases bsp hq with ⟨-, hq⟩ | ⟨-, hq⟩
  ·
    cases hq
    exact f0
  ·
    rcases bsp hq with ⟨-, hq⟩ | ⟨-, hq⟩
    ·
      cases hq
      exact f0
    ·
      rcases bsp hq with ⟨-, hq⟩ | ⟨-, hq⟩
      ·
        cases hq
        exact f0
      ·
        cases hq
        exact f0
set_option maxRecDepth 100000 in
theorem f27_8_frA {I : tI} {J : tJ} {a0 : Int32} {v : Int32} {I1 : tI} {J1 : tJ} (hq : f27_8 I J a0 = (v, I1, J1)) : frO qfIA qfJA I I1 J J1 := by
  unfold f27_8 at hq
  have f0 : frO qfIA qfJA I I J J := fO_refl
  rcases bsp hq with ⟨-, hq⟩ | ⟨-, hq⟩
  ·
    cases hq
    exact f0
  ·
    rcases bsp hq with ⟨-, hq⟩ | ⟨-, hq⟩
    ·
      cases hq
      exact f0
    ·
      rcases bsp hq with ⟨-, hq⟩ | ⟨-, hq⟩
      ·
        cases hq
        exact f0
      ·
        cases hq
        exact f0
set_option maxRecDepth 100000 in
theorem f30_8_frA {I : tI} {J : tJ} {v : Unit} {I1 : tI} {J1 : tJ} (hq : f30_8 I J = (v, I1, J1)) : frO qfIA qfJA I I1 J J1 := by
  unfold f30_8 at hq
  have f0 : frO qfIA qfJA I I J J := fO_refl
  rcases bsp hq with ⟨-, hq⟩ | ⟨-, hq⟩
  ·
    cases hq
    exact (fO_I (fO_I (fO_I f0 rfl) rfl) rfl)
  ·
    rcases bsp hq with ⟨-, hq⟩ | ⟨-, hq⟩
    ·
      cases hq
      exact (fO_I (fO_I (fO_I f0 rfl) rfl) rfl)
    ·
      rcases bsp hq with ⟨-, hq⟩ | ⟨-, hq⟩
      ·
        cases hq
        exact (fO_I (fO_I (fO_I f0 rfl) rfl) rfl)
      ·
        rcases bsp hq with ⟨-, hq⟩ | ⟨-, hq⟩
        ·
          cases hq
          exact (fO_I (fO_I (fO_I f0 rfl) rfl) rfl)
        ·
          cases hq
          exact (fO_I (fO_I (fO_I f0 rfl) rfl) rfl)
set_option maxRecDepth 100000 in
theorem f29_8_l0_frA {N : Nat} : ∀ (k : Nat) {I : tI} {J : tJ} {I1 : tI} {J1 : tJ}, f29_8_l0 N k I J = some (I1, J1) → frO qfIA qfJA I I1 J J1
  | 0, _, _, _, _, hq => by cases hq
  | k + 1, I, J, I1, J1, hq => by
    unfold f29_8_l0 at hq
    have f0 : frO qfIA qfJA I I J J := fO_refl
    rcases bsp hq with ⟨-, hq⟩ | ⟨-, hq⟩
    ·
      cases hq
      exact f0
    ·
      generalize e2 : f27_8 I J (I 8 4) = q2 at hq
      obtain ⟨v2, I2, J2⟩ := q2
      dsimp only at hq
      have f2 := fO_tr f0 (f27_8_frA e2)
      rcases bsp hq with ⟨-, hq⟩ | ⟨-, hq⟩
      ·
        cases hq
        exact f2
      ·
        rcases bsp hq with ⟨-, hq⟩ | ⟨-, hq⟩
        ·
          exact fO_tr (fO_I f2 rfl) (f29_8_l0_frA k hq)
        ·
          exact fO_tr (fO_I (fO_I f2 rfl) rfl) (f29_8_l0_frA k hq)
set_option maxRecDepth 100000 in
theorem f29_8_j72_frA {N : Nat} {I : tI} {J : tJ} {v : Unit} {I1 : tI} {J1 : tJ} (hq : f29_8_j72 N I J = some (v, I1, J1)) : frO qfIA qfJA I I1 J J1 := by
  unfold f29_8_j72 at hq
  have f0 : frO qfIA qfJA I I J J := fO_refl
  rcases bsp hq with ⟨-, hq⟩ | ⟨-, hq⟩
  ·
    cases hq
    exact (fO_I f0 rfl)
  ·
    cases hq
    exact (fO_I f0 rfl)
set_option maxRecDepth 100000 in
theorem f29_8_frA {N : Nat} {I : tI} {J : tJ} {v : Unit} {I1 : tI} {J1 : tJ} (hq : f29_8 N I J = some (v, I1, J1)) : frO qfIA qfJA I I1 J J1 := by
  unfold f29_8 at hq
  have f0 : frO qfIA qfJA I I J J := fO_refl
  cases e1 : f29_8_l0 N N I J with
  | none => rw [e1] at hq; cases hq
  | some Y =>
  obtain ⟨I1, J1⟩ := Y
  rw [e1] at hq
  dsimp only at hq
  have f1 := fO_tr f0 (f29_8_l0_frA N e1)
  exact fO_tr f1 (f29_8_j72_frA hq)
set_option maxRecDepth 100000 in
theorem f28_8_l5_frA {N : Nat} : ∀ (k : Nat) {I : tI} {J : tJ} {I1 : tI} {J1 : tJ}, f28_8_l5 N k I J = some (I1, J1) → frO qfIA qfJA I I1 J J1
  | 0, _, _, _, _, hq => by cases hq
  | k + 1, I, J, I1, J1, hq => by
    unfold f28_8_l5 at hq
    have f0 : frO qfIA qfJA I I J J := fO_refl
    rcases bsp hq with ⟨-, hq⟩ | ⟨-, hq⟩
    ·
      cases hq
      exact f0
    ·
      generalize e2 : f26_8 I J (I 8 4) = q2 at hq
      obtain ⟨v2, I2, J2⟩ := q2
      dsimp only at hq
      have f2 := fO_tr f0 (f26_8_frA e2)
      rcases bsp hq with ⟨-, hq⟩ | ⟨-, hq⟩
      ·
        cases hq
        exact f2
      ·
        rcases bsp hq with ⟨-, hq⟩ | ⟨-, hq⟩
        ·
          exact fO_tr (fO_I f2 rfl) (f28_8_l5_frA k hq)
        ·
          exact fO_tr (fO_J (fO_I f2 rfl) rfl) (f28_8_l5_frA k hq)
set_option maxRecDepth 100000 in
theorem f28_8_frA {N : Nat} {I : tI} {J : tJ} {v : Unit} {I1 : tI} {J1 : tJ} (hq : f28_8 N I J = some (v, I1, J1)) : frO qfIA qfJA I I1 J J1 := by
  unfold f28_8 at hq
  have f0 : frO qfIA qfJA I I J J := fO_refl
  cases e1 : f28_8_l5 N N (tup I 8 2 1) J with
  | none => rw [e1] at hq; cases hq
  | some Y =>
  obtain ⟨I1, J1⟩ := Y
  rw [e1] at hq
  dsimp only at hq
  have f1 := fO_tr (fO_I f0 rfl) (f28_8_l5_frA N e1)
  cases hq
  exact f1
set_option maxRecDepth 100000 in
theorem f31_8_l12_frA {N : Nat} : ∀ (k : Nat) {I : tI} {J : tJ} {x1 : Int32} {x2 : Int32} {x3 : Int32} {x4 : Int32} {kx : Nat} {y1 : Int32} {y2 : Int32} {y3 : Int32} {y4 : Int32} {I1 : tI} {J1 : tJ}, f31_8_l12 N k I J x1 x2 x3 x4 = some (kx, y1, y2, y3, y4, I1, J1) → frO qfIA qfJA I I1 J J1
  | 0, _, _, _, _, _, _, _, _, _, _, _, _, _, hq => by cases hq
  | k + 1, I, J, x1, x2, x3, x4, kx, y1, y2, y3, y4, I1, J1, hq => by
    unfold f31_8_l12 at hq
    have f0 : frO qfIA qfJA I I J J := fO_refl
    rcases bsp hq with ⟨-, hq⟩ | ⟨-, hq⟩
    ·
      cases hq
      exact f0
    ·
      rcases bsp hq with ⟨-, hq⟩ | ⟨-, hq⟩
      ·
        rcases bsp hq with ⟨-, hq⟩ | ⟨-, hq⟩
        ·
          exact fO_tr f0 (f31_8_l12_frA k hq)
        ·
          rcases bsp hq with ⟨-, hq⟩ | ⟨-, hq⟩
          ·
            exact fO_tr f0 (f31_8_l12_frA k hq)
          ·
            cases hq
            exact f0
      ·
        rcases bsp hq with ⟨-, hq⟩ | ⟨-, hq⟩
        ·
          exact fO_tr f0 (f31_8_l12_frA k hq)
        ·
          rcases bsp hq with ⟨-, hq⟩ | ⟨-, hq⟩
          ·
            exact fO_tr f0 (f31_8_l12_frA k hq)
          ·
            rcases bsp hq with ⟨-, hq⟩ | ⟨-, hq⟩
            ·
              exact fO_tr f0 (f31_8_l12_frA k hq)
            ·
              exact fO_tr f0 (f31_8_l12_frA k hq)
set_option maxRecDepth 100000 in
theorem f31_8_frA {N : Nat} {I : tI} {J : tJ} {v : Int32} {I1 : tI} {J1 : tJ} (hq : f31_8 N I J = some (v, I1, J1)) : frO qfIA qfJA I I1 J J1 := by
  unfold f31_8 at hq
  have f0 : frO qfIA qfJA I I J J := fO_refl
  cases e1 : f31_8_l12 N N I J 0 (I 8 3) 1 0 with
  | none => rw [e1] at hq; cases hq
  | some Y =>
  obtain ⟨k1, y1_1, y1_2, y1_3, y1_4, I1, J1⟩ := Y
  rw [e1] at hq
  dsimp only at hq
  have f1 := fO_tr f0 (f31_8_l12_frA N e1)
  rcases bsp hq with ⟨-, hq⟩ | ⟨-, hq⟩
  ·
    cases hq
    exact f1
  ·
    cases hq
    exact f1
set_option maxRecDepth 100000 in
theorem f25_8_j60_frA {N : Nat} {I : tI} {J : tJ} {v : Unit} {I1 : tI} {J1 : tJ} (hq : f25_8_j60 N I J = some (v, I1, J1)) : frO qfIA qfJA I I1 J J1 := by
  unfold f25_8_j60 at hq
  have f0 : frO qfIA qfJA I I J J := fO_refl
  rcases bsp hq with ⟨-, hq⟩ | ⟨-, hq⟩
  ·
    generalize e3 : f26_8 (tup (tup (tup I 8 4 (I 8 3)) 8 5 (-1)) 8 7 0) (tup J 8 6 0) (I 8 3) = q3 at hq
    obtain ⟨v3, I3, J3⟩ := q3
    dsimp only at hq
    have f3 := fO_tr (fO_J (fO_I (fO_I (fO_I f0 rfl) rfl) rfl) rfl) (f26_8_frA e3)
    rcases bsp hq with ⟨-, hq⟩ | ⟨-, hq⟩
    ·
      generalize e5 : f27_8 I3 J3 (I3 8 3) = q5 at hq
      obtain ⟨v5, I5, J5⟩ := q5
      dsimp only at hq
      have f5 := fO_tr f3 (f27_8_frA e5)
      rcases bsp hq with ⟨-, hq⟩ | ⟨-, hq⟩
      ·
        generalize e7 : f30_8 I5 J5 = q7 at hq
        obtain ⟨v7, I7, J7⟩ := q7
        dsimp only at hq
        have f7 := fO_tr f5 (f30_8_frA e7)
        cases hq
        exact f7
      ·
        obtain ⟨_, I8, J8, e8, hq⟩ := obU hq
        have f8 := fO_tr f5 (f29_8_frA e8)
        cases hq
        exact f8
    ·
      obtain ⟨_, I9, J9, e9, hq⟩ := obU hq
      have f9 := fO_tr f3 (f28_8_frA e9)
      obtain ⟨v10, I10, J10, e10, hq⟩ := obI hq
      have f10 := fO_tr f9 (f31_8_frA e10)
      cases hq
      exact (fO_I f10 rfl)
  ·
    cases hq
    exact (fO_J (fO_I (fO_I (fO_I (fO_I f0 rfl) rfl) rfl) rfl) rfl)
set_option maxRecDepth 100000 in
theorem f25_8_frA {N : Nat} {I : tI} {J : tJ} {v : Unit} {I1 : tI} {J1 : tJ} (hq : f25_8 N I J = some (v, I1, J1)) : frO qfIA qfJA I I1 J J1 := by
  unfold f25_8 at hq
  have f0 : frO qfIA qfJA I I J J := fO_refl
  cases e1 : f25_8_l8 N N (tup I 8 3 (I 8 4)) J with
  | none => rw [e1] at hq; cases hq
  | some Y =>
  obtain ⟨I1, J1⟩ := Y
  rw [e1] at hq
  dsimp only at hq
  have f1 := fO_tr (fO_I f0 rfl) (f25_8_l8_frA N e1)
  exact fO_tr f1 (f25_8_j60_frA hq)
set_option maxRecDepth 100000 in
theorem f24_8_frA {N : Nat} {I : tI} {J : tJ} {a0 : Int32} {v : Unit} {I1 : tI} {J1 : tJ} (hq : f24_8 N I J a0 = some (v, I1, J1)) : frO qfIA qfJA I I1 J J1 := by
  unfold f24_8 at hq
  have f0 : frO qfIA qfJA I I J J := fO_refl
  obtain ⟨_, I1, J1, e1, hq⟩ := obU hq
  have f1 := fO_tr (fO_I (fO_I (fO_I (fO_I f0 rfl) rfl) rfl) rfl) (f25_8_frA e1)
  cases hq
  exact f1
set_option maxRecDepth 100000 in
theorem f32_8_frA {I : tI} {J : tJ} {v : Int32} {I1 : tI} {J1 : tJ} (hq : f32_8 I J = (v, I1, J1)) : frO qfIA qfJA I I1 J J1 := by
  unfold f32_8 at hq
  have f0 : frO qfIA qfJA I I J J := fO_refl
  rcases bsp hq with ⟨-, hq⟩ | ⟨-, hq⟩
  ·
    cases hq
    exact f0
  ·
    cases hq
    exact f0
set_option maxRecDepth 100000 in
theorem f76_35_frA {I : tI} {J : tJ} {v : Int32} {I1 : tI} {J1 : tJ} (hq : f76_35 I J = (v, I1, J1)) : frO qfIA qfJA I I1 J J1 := by
  unfold f76_35 at hq
  have f0 : frO qfIA qfJA I I J J := fO_refl
  rcases bsp hq with ⟨-, hq⟩ | ⟨-, hq⟩
  ·
    cases hq
    exact f0
  ·
    cases hq
    exact f0
set_option maxRecDepth 100000 in
theorem f33_8_frA {I : tI} {J : tJ} {a0 : Int32} {v : Int32} {I1 : tI} {J1 : tJ} (hq : f33_8 I J a0 = (v, I1, J1)) : frO qfIA qfJA I I1 J J1 := by
  unfold f33_8 at hq
  have f0 : frO qfIA qfJA I I J J := fO_refl
  rcases bsp hq with ⟨-, hq⟩ | ⟨-, hq⟩
  ·
    cases hq
    exact (fO_I (fO_I f0 rfl) rfl)
  ·
    cases hq
    exact (fO_I (fO_I f0 rfl) rfl)
set_option maxRecDepth 100000 in
theorem f37_8_frA {I : tI} {J : tJ} {a0 : Int32} {a1 : Int32} {v : Int32} {I1 : tI} {J1 : tJ} (hq : f37_8 I J a0 a1 = (v, I1, J1)) : frO qfIA qfJA I I1 J J1 := by
  unfold f37_8 at hq
  have f0 : frO qfIA qfJA I I J J := fO_refl
  rcases bsp hq with ⟨-, hq⟩ | ⟨-, hq⟩
  ·
    generalize e2 : f127 I J (I 8 7) a0 a1 = q2 at hq
    obtain ⟨v2, I2, J2⟩ := q2
    dsimp only at hq
    have f2 := fO_tr f0 (f127_frA e2)
    rcases bsp hq with ⟨-, hq⟩ | ⟨-, hq⟩
    ·
      cases hq
      exact f2
    ·
      generalize e4 : f33_8 I2 J2 4 = q4 at hq
      obtain ⟨v4, I4, J4⟩ := q4
      dsimp only at hq
      have f4 := fO_tr f2 (f33_8_frA e4)
      rcases bsp hq with ⟨-, hq⟩ | ⟨-, hq⟩
      ·
        cases hq
        exact f4
      ·
        cases hq
        exact f4
  ·
    generalize e6 : f33_8 I J 2 = q6 at hq
    obtain ⟨v6, I6, J6⟩ := q6
    dsimp only at hq
    have f6 := fO_tr f0 (f33_8_frA e6)
    cases hq
    exact f6
set_option maxRecDepth 100000 in
theorem f34_8_frA {N : Nat} {I : tI} {J : tJ} {a0 : Int32} {v : Int32} {I1 : tI} {J1 : tJ} (hq : f34_8 N I J a0 = some (v, I1, J1)) : frO qfIA qfJA I I1 J J1 := by
  unfold f34_8 at hq
  have f0 : frO qfIA qfJA I I J J := fO_refl
  rcases bsp hq with ⟨-, hq⟩ | ⟨-, hq⟩
  ·
    obtain ⟨_, I2, J2, e2, hq⟩ := obU hq
    have f2 := fO_tr f0 (f25_8_frA e2)
    cases hq
    exact f2
  ·
    generalize e3 : f33_8 I J 2 = q3 at hq
    obtain ⟨v3, I3, J3⟩ := q3
    dsimp only at hq
    have f3 := fO_tr f0 (f33_8_frA e3)
    cases hq
    exact f3
set_option maxRecDepth 100000 in
theorem f35_8_frA {N : Nat} {I : tI} {J : tJ} {v : Int32} {I1 : tI} {J1 : tJ} (hq : f35_8 N I J = some (v, I1, J1)) : frO qfIA qfJA I I1 J J1 := by
  unfold f35_8 at hq
  have f0 : frO qfIA qfJA I I J J := fO_refl
  rcases bsp hq with ⟨-, hq⟩ | ⟨-, hq⟩
  ·
    generalize e2 : f33_8 I J 2 = q2 at hq
    obtain ⟨v2, I2, J2⟩ := q2
    dsimp only at hq
    have f2 := fO_tr f0 (f33_8_frA e2)
    cases hq
    exact f2
  ·
    rcases bsp hq with ⟨-, hq⟩ | ⟨-, hq⟩
    ·
      obtain ⟨_, I4, J4, e4, hq⟩ := obU hq
      have f4 := fO_tr f0 (f25_8_frA e4)
      cases hq
      exact f4
    ·
      generalize e5 : f33_8 I J 2 = q5 at hq
      obtain ⟨v5, I5, J5⟩ := q5
      dsimp only at hq
      have f5 := fO_tr f0 (f33_8_frA e5)
      cases hq
      exact f5
set_option maxRecDepth 100000 in
theorem f77_35_frA {N : Nat} {I : tI} {J : tJ} {v : Int32} {I1 : tI} {J1 : tJ} (hq : f77_35 N I J = some (v, I1, J1)) : frO qfIA qfJA I I1 J J1 := by
  unfold f77_35 at hq
  have f0 : frO qfIA qfJA I I J J := fO_refl
  generalize e1 : f76_35 I J = q1 at hq
  obtain ⟨v1, I1, J1⟩ := q1
  dsimp only at hq
  have f1 := fO_tr f0 (f76_35_frA e1)
  rcases bsp hq with ⟨-, hq⟩ | ⟨-, hq⟩
  ·
    obtain ⟨_, I3, J3, e3, hq⟩ := obU hq
    have f3 := fO_tr f1 (f25_8_frA e3)
    generalize e4 : f37_8 I3 J3 1 6 = q4 at hq
    obtain ⟨v4, I4, J4⟩ := q4
    dsimp only at hq
    have f4 := fO_tr f3 (f37_8_frA e4)
    rcases bsp hq with ⟨-, hq⟩ | ⟨-, hq⟩
    ·
      obtain ⟨_, I6, J6, e6, hq⟩ := obU hq
      have f6 := fO_tr f4 (f25_8_frA e6)
      obtain ⟨v7, I7, J7, e7, hq⟩ := obI hq
      have f7 := fO_tr f6 (f34_8_frA e7)
      rcases bsp hq with ⟨-, hq⟩ | ⟨-, hq⟩
      ·
        cases hq
        exact f7
      ·
        generalize e9 : f37_8 I7 J7 1 5 = q9 at hq
        obtain ⟨v9, I9, J9⟩ := q9
        dsimp only at hq
        have f9 := fO_tr f7 (f37_8_frA e9)
        rcases bsp hq with ⟨-, hq⟩ | ⟨-, hq⟩
        ·
          obtain ⟨_, I11, J11, e11, hq⟩ := obU hq
          have f11 := fO_tr (fO_I (fO_I f9 rfl) rfl) (f25_8_frA e11)
          obtain ⟨v12, I12, J12, e12, hq⟩ := obI hq
          have f12 := fO_tr f11 (f35_8_frA e12)
          cases hq
          exact f12
        ·
          cases hq
          exact f9
    ·
      cases hq
      exact f4
  ·
    generalize e13 : f33_8 I1 J1 5 = q13 at hq
    obtain ⟨v13, I13, J13⟩ := q13
    dsimp only at hq
    have f13 := fO_tr f1 (f33_8_frA e13)
    cases hq
    exact f13
set_option maxRecDepth 100000 in
theorem f78_35_frA {N : Nat} {I : tI} {J : tJ} {v : Int32} {I1 : tI} {J1 : tJ} (hq : f78_35 N I J = some (v, I1, J1)) : frO qfIA qfJA I I1 J J1 := by
  unfold f78_35 at hq
  have f0 : frO qfIA qfJA I I J J := fO_refl
  rcases bsp hq with ⟨-, hq⟩ | ⟨-, hq⟩
  ·
    obtain ⟨_, I2, J2, e2, hq⟩ := obU hq
    have f2 := fO_tr f0 (f25_8_frA e2)
    generalize e3 : f37_8 I2 J2 0 99 = q3 at hq
    obtain ⟨v3, I3, J3⟩ := q3
    dsimp only at hq
    have f3 := fO_tr f2 (f37_8_frA e3)
    rcases bsp hq with ⟨-, hq⟩ | ⟨-, hq⟩
    ·
      obtain ⟨_, I5, J5, e5, hq⟩ := obU hq
      have f5 := fO_tr (fO_I f3 rfl) (f25_8_frA e5)
      obtain ⟨v6, I6, J6, e6, hq⟩ := obI hq
      have f6 := fO_tr f5 (f34_8_frA e6)
      rcases bsp hq with ⟨-, hq⟩ | ⟨-, hq⟩
      ·
        cases hq
        exact f6
      ·
        generalize e8 : f37_8 I6 J6 0 20 = q8 at hq
        obtain ⟨v8, I8, J8⟩ := q8
        dsimp only at hq
        have f8 := fO_tr f6 (f37_8_frA e8)
        rcases bsp hq with ⟨-, hq⟩ | ⟨-, hq⟩
        ·
          obtain ⟨_, I10, J10, e10, hq⟩ := obU hq
          have f10 := fO_tr (fO_I (fO_I f8 rfl) rfl) (f25_8_frA e10)
          obtain ⟨v11, I11, J11, e11, hq⟩ := obI hq
          have f11 := fO_tr f10 (f35_8_frA e11)
          cases hq
          exact f11
        ·
          cases hq
          exact f8
    ·
      cases hq
      exact f3
  ·
    generalize e12 : f33_8 I J 5 = q12 at hq
    obtain ⟨v12, I12, J12⟩ := q12
    dsimp only at hq
    have f12 := fO_tr f0 (f33_8_frA e12)
    cases hq
    exact f12
set_option maxRecDepth 100000 in
theorem f43_frA {I : tI} {J : tJ} {a0 : Int32} {a1 : Int32} {v : Int32} {I1 : tI} {J1 : tJ} (hq : f43 I J a0 a1 = (v, I1, J1)) : frO qfIA qfJA I I1 J J1 := by
  unfold f43 at hq
  have f0 : frO qfIA qfJA I I J J := fO_refl
  cases hq
  exact f0
set_option maxRecDepth 100000 in
theorem f79_35_frA {N : Nat} {I : tI} {J : tJ} {v : Int32} {I1 : tI} {J1 : tJ} (hq : f79_35 N I J = some (v, I1, J1)) : frO qfIA qfJA I I1 J J1 := by
  unfold f79_35 at hq
  have f0 : frO qfIA qfJA I I J J := fO_refl
  generalize e1 : f37_8 I J 0 ((I 37 0) - 1) = q1 at hq
  obtain ⟨v1, I1, J1⟩ := q1
  dsimp only at hq
  have f1 := fO_tr f0 (f37_8_frA e1)
  rcases bsp hq with ⟨-, hq⟩ | ⟨-, hq⟩
  ·
    obtain ⟨_, I3, J3, e3, hq⟩ := obU hq
    have f3 := fO_tr f1 (f25_8_frA e3)
    generalize e4 : f37_8 I3 J3 0 ((I3 37 1) - 1) = q4 at hq
    obtain ⟨v4, I4, J4⟩ := q4
    dsimp only at hq
    have f4 := fO_tr f3 (f37_8_frA e4)
    rcases bsp hq with ⟨-, hq⟩ | ⟨-, hq⟩
    ·
      generalize e6 : f43 I4 J4 (I1 8 7) (I4 8 7) = q6 at hq
      obtain ⟨v6, I6, J6⟩ := q6
      dsimp only at hq
      have f6 := fO_tr f4 (f43_frA e6)
      cases hq
      exact (fO_I f6 rfl)
    ·
      cases hq
      exact f4
  ·
    cases hq
    exact f1
set_option maxRecDepth 100000 in
theorem f47_37_frA {I : tI} {J : tJ} {a0 : Int32} {v : Int32} {I1 : tI} {J1 : tJ} (hq : f47_37 I J a0 = (v, I1, J1)) : frO qfIA qfJA I I1 J J1 := by
  unfold f47_37 at hq
  have f0 : frO qfIA qfJA I I J J := fO_refl
  rcases bsp hq with ⟨-, hq⟩ | ⟨-, hq⟩
  ·
    cases hq
    exact f0
  ·
    cases hq
    exact f0
set_option maxRecDepth 100000 in
theorem f15_38_l2_frA {N : Nat} : ∀ (k : Nat) {I : tI} {J : tJ} {x1 : Int32} {x2 : Int32} {kx : Nat} {y1 : Int32} {y2 : Int32} {I1 : tI} {J1 : tJ}, f15_38_l2 N k I J x1 x2 = some (kx, y1, y2, I1, J1) → frO qfIA qfJA I I1 J J1
  | 0, _, _, _, _, _, _, _, _, _, hq => by cases hq
  | k + 1, I, J, x1, x2, kx, y1, y2, I1, J1, hq => by
    unfold f15_38_l2 at hq
    have f0 : frO qfIA qfJA I I J J := fO_refl
    rcases bsp hq with ⟨-, hq⟩ | ⟨-, hq⟩
    ·
      cases hq
      exact f0
    ·
      rcases bsp hq with ⟨-, hq⟩ | ⟨-, hq⟩
      ·
        exact fO_tr f0 (f15_38_l2_frA k hq)
      ·
        cases hq
        exact f0
set_option maxRecDepth 100000 in
theorem f15_38_frA {N : Nat} {I : tI} {J : tJ} {a0 : Int32} {v : Int32} {I1 : tI} {J1 : tJ} (hq : f15_38 N I J a0 = some (v, I1, J1)) : frO qfIA qfJA I I1 J J1 := by
  unfold f15_38 at hq
  have f0 : frO qfIA qfJA I I J J := fO_refl
  cases e1 : f15_38_l2 N N I J a0 0 with
  | none => rw [e1] at hq; cases hq
  | some Y =>
  obtain ⟨k1, y1_1, y1_2, I1, J1⟩ := Y
  rw [e1] at hq
  dsimp only at hq
  have f1 := fO_tr f0 (f15_38_l2_frA N e1)
  rcases bsp hq with ⟨-, hq⟩ | ⟨-, hq⟩
  ·
    cases hq
    exact f1
  ·
    cases hq
    exact f1
set_option maxRecDepth 100000 in
theorem f80_35_frA {N : Nat} {I : tI} {J : tJ} {v : Int32} {I1 : tI} {J1 : tJ} (hq : f80_35 N I J = some (v, I1, J1)) : frO qfIA qfJA I I1 J J1 := by
  unfold f80_35 at hq
  have f0 : frO qfIA qfJA I I J J := fO_refl
  obtain ⟨v1, I1, J1, e1, hq⟩ := obI hq
  have f1 := fO_tr f0 (f79_35_frA e1)
  rcases bsp hq with ⟨-, hq⟩ | ⟨-, hq⟩
  ·
    generalize e3 : f47_37 I1 J1 (I1 35 3) = q3 at hq
    obtain ⟨v3, I3, J3⟩ := q3
    dsimp only at hq
    have f3 := fO_tr f1 (f47_37_frA e3)
    rcases bsp hq with ⟨-, hq⟩ | ⟨-, hq⟩
    ·
      generalize e5 : f33_8 I3 J3 5 = q5 at hq
      obtain ⟨v5, I5, J5⟩ := q5
      dsimp only at hq
      have f5 := fO_tr f3 (f33_8_frA e5)
      cases hq
      exact f5
    ·
      obtain ⟨v6, I6, J6, e6, hq⟩ := obI hq
      have f6 := fO_tr f3 (f15_38_frA e6)
      rcases bsp hq with ⟨-, hq⟩ | ⟨-, hq⟩
      ·
        obtain ⟨_, I8, J8, e8, hq⟩ := obU hq
        have f8 := fO_tr f6 (f25_8_frA e8)
        cases hq
        exact f8
      ·
        generalize e9 : f33_8 I6 J6 5 = q9 at hq
        obtain ⟨v9, I9, J9⟩ := q9
        dsimp only at hq
        have f9 := fO_tr f6 (f33_8_frA e9)
        cases hq
        exact f9
  ·
    cases hq
    exact f1
set_option maxRecDepth 100000 in
theorem f81_35_frA {N : Nat} {I : tI} {J : tJ} {v : Int32} {I1 : tI} {J1 : tJ} (hq : f81_35 N I J = some (v, I1, J1)) : frO qfIA qfJA I I1 J J1 := by
  unfold f81_35 at hq
  have f0 : frO qfIA qfJA I I J J := fO_refl
  generalize e1 : f76_35 I J = q1 at hq
  obtain ⟨v1, I1, J1⟩ := q1
  dsimp only at hq
  have f1 := fO_tr f0 (f76_35_frA e1)
  rcases bsp hq with ⟨-, hq⟩ | ⟨-, hq⟩
  ·
    obtain ⟨_, I3, J3, e3, hq⟩ := obU hq
    have f3 := fO_tr f1 (f25_8_frA e3)
    obtain ⟨v4, I4, J4, e4, hq⟩ := obI hq
    have f4 := fO_tr f3 (f80_35_frA e4)
    rcases bsp hq with ⟨-, hq⟩ | ⟨-, hq⟩
    ·
      obtain ⟨v6, I6, J6, e6, hq⟩ := obI hq
      have f6 := fO_tr (fO_J f4 rfl) (f35_8_frA e6)
      cases hq
      exact f6
    ·
      cases hq
      exact f4
  ·
    generalize e7 : f33_8 I1 J1 2 = q7 at hq
    obtain ⟨v7, I7, J7⟩ := q7
    dsimp only at hq
    have f7 := fO_tr f1 (f33_8_frA e7)
    cases hq
    exact f7
set_option maxRecDepth 100000 in
theorem f38_8_frA {I : tI} {J : tJ} {v : Int32} {I1 : tI} {J1 : tJ} (hq : f38_8 I J = (v, I1, J1)) : frO qfIA qfJA I I1 J J1 := by
  unfold f38_8 at hq
  have f0 : frO qfIA qfJA I I J J := fO_refl
  rcases bsp hq with ⟨-, hq⟩ | ⟨-, hq⟩
  ·
    generalize e2 : f33_8 I J 2 = q2 at hq
    obtain ⟨v2, I2, J2⟩ := q2
    dsimp only at hq
    have f2 := fO_tr f0 (f33_8_frA e2)
    rcases bsp hq with ⟨-, hq⟩ | ⟨-, hq⟩
    ·
      cases hq
      exact f2
    ·
      cases hq
      exact f2
  ·
    rcases bsp hq with ⟨-, hq⟩ | ⟨-, hq⟩
    ·
      generalize e5 : f33_8 I J 2 = q5 at hq
      obtain ⟨v5, I5, J5⟩ := q5
      dsimp only at hq
      have f5 := fO_tr f0 (f33_8_frA e5)
      rcases bsp hq with ⟨-, hq⟩ | ⟨-, hq⟩
      ·
        cases hq
        exact f5
      ·
        cases hq
        exact f5
    ·
      rcases bsp hq with ⟨-, hq⟩ | ⟨-, hq⟩
      ·
        cases hq
        exact f0
      ·
        generalize e8 : f33_8 I J 2 = q8 at hq
        obtain ⟨v8, I8, J8⟩ := q8
        dsimp only at hq
        have f8 := fO_tr f0 (f33_8_frA e8)
        rcases bsp hq with ⟨-, hq⟩ | ⟨-, hq⟩
        ·
          cases hq
          exact f8
        ·
          cases hq
          exact f8
set_option maxRecDepth 100000 in
theorem f40_39_l3_frA {N : Nat} : ∀ (k : Nat) {I : tI} {J : tJ} {x1 : Int32} {x2 : Int64} {x4 : Int32} {kx : Nat} {y1 : Int32} {y2 : Int64} {y4 : Int32} {I1 : tI} {J1 : tJ}, f40_39_l3 N k I J x1 x2 x4 = some (kx, y1, y2, y4, I1, J1) → frO qfIA qfJA I I1 J J1
  | 0, _, _, _, _, _, _, _, _, _, _, _, hq => by cases hq
  | k + 1, I, J, x1, x2, x4, kx, y1, y2, y4, I1, J1, hq => by
    unfold f40_39_l3 at hq
    have f0 : frO qfIA qfJA I I J J := fO_refl
    rcases bsp hq with ⟨-, hq⟩ | ⟨-, hq⟩
    ·
      cases hq
      exact f0
    ·
      rcases bsp hq with ⟨-, hq⟩ | ⟨-, hq⟩
      ·
        cases hq
        exact f0
      ·
        rcases bsp hq with ⟨-, hq⟩ | ⟨-, hq⟩
        ·
          exact fO_tr f0 (f40_39_l3_frA k hq)
        ·
          cases hq
          exact f0
set_option maxRecDepth 100000 in
theorem f40_39_frA {N : Nat} {I : tI} {J : tJ} {a0 : Int32} {a1 : Int64} {v : Int32} {I1 : tI} {J1 : tJ} (hq : f40_39 N I J a0 a1 = some (v, I1, J1)) : frO qfIA qfJA I I1 J J1 := by
  unfold f40_39 at hq
  have f0 : frO qfIA qfJA I I J J := fO_refl
  cases e1 : f40_39_l3 N N I J a0 a1 0 with
  | none => rw [e1] at hq; cases hq
  | some Y =>
  obtain ⟨k1, y1_1, y1_2, y1_4, I1, J1⟩ := Y
  rw [e1] at hq
  dsimp only at hq
  have f1 := fO_tr f0 (f40_39_l3_frA N e1)
  rcases bsp hq with ⟨-, hq⟩ | ⟨-, hq⟩
  ·
    cases hq
    exact f1
  ·
    cases hq
    exact f1
set_option maxRecDepth 100000 in
theorem f82_35_j113_frA {N : Nat} {I : tI} {J : tJ} {s0 : Int32} {v : Int32} {I1 : tI} {J1 : tJ} (hq : f82_35_j113 N I J s0 = some (v, I1, J1)) : frO qfIA qfJA I I1 J J1 := by
  unfold f82_35_j113 at hq
  have f0 : frO qfIA qfJA I I J J := fO_refl
  rcases bsp hq with ⟨-, hq⟩ | ⟨-, hq⟩
  ·
    cases hq
    exact f0
  ·
    generalize e6 : f33_8 I J 3 = q6 at hq
    obtain ⟨v6, I6, J6⟩ := q6
    dsimp only at hq
    have f6 := fO_tr f0 (f33_8_frA e6)
    rcases bsp hq with ⟨-, hq⟩ | ⟨-, hq⟩
    ·
      cases hq
      exact f6
    ·
      cases hq
      exact f6
set_option maxRecDepth 100000 in
theorem f82_35_j108_frA {N : Nat} {I : tI} {J : tJ} {v : Int32} {I1 : tI} {J1 : tJ} (hq : f82_35_j108 N I J = some (v, I1, J1)) : frO qfIA qfJA I I1 J J1 := by
  unfold f82_35_j108 at hq
  have f0 : frO qfIA qfJA I I J J := fO_refl
  exact fO_tr f0 (f82_35_j113_frA hq)
set_option maxRecDepth 100000 in
theorem f40_48_l3_frA {N : Nat} : ∀ (k : Nat) {I : tI} {J : tJ} {x1 : Int32} {x2 : Int64} {x4 : Int32} {kx : Nat} {y1 : Int32} {y2 : Int64} {y4 : Int32} {I1 : tI} {J1 : tJ}, f40_48_l3 N k I J x1 x2 x4 = some (kx, y1, y2, y4, I1, J1) → frO qfIA qfJA I I1 J J1
  | 0, _, _, _, _, _, _, _, _, _, _, _, hq => by cases hq
  | k + 1, I, J, x1, x2, x4, kx, y1, y2, y4, I1, J1, hq => by
    unfold f40_48_l3 at hq
    have f0 : frO qfIA qfJA I I J J := fO_refl
    rcases bsp hq with ⟨-, hq⟩ | ⟨-, hq⟩
    ·
      cases hq
      exact f0
    ·
      rcases bsp hq with ⟨-, hq⟩ | ⟨-, hq⟩
      ·
        cases hq
        exact f0
      ·
        rcases bsp hq with ⟨-, hq⟩ | ⟨-, hq⟩
        ·
          exact fO_tr f0 (f40_48_l3_frA k hq)
        ·
          cases hq
          exact f0
set_option maxRecDepth 100000 in
theorem f40_48_frA {N : Nat} {I : tI} {J : tJ} {a0 : Int32} {a1 : Int64} {v : Int32} {I1 : tI} {J1 : tJ} (hq : f40_48 N I J a0 a1 = some (v, I1, J1)) : frO qfIA qfJA I I1 J J1 := by
  unfold f40_48 at hq
  have f0 : frO qfIA qfJA I I J J := fO_refl
  cases e1 : f40_48_l3 N N I J a0 a1 0 with
  | none => rw [e1] at hq; cases hq
  | some Y =>
  obtain ⟨k1, y1_1, y1_2, y1_4, I1, J1⟩ := Y
  rw [e1] at hq
  dsimp only at hq
  have f1 := fO_tr f0 (f40_48_l3_frA N e1)
  rcases bsp hq with ⟨-, hq⟩ | ⟨-, hq⟩
  ·
    cases hq
    exact f1
  ·
    cases hq
    exact f1
set_option maxRecDepth 100000 in
theorem f40_57_l3_frA {N : Nat} : ∀ (k : Nat) {I : tI} {J : tJ} {x1 : Int32} {x2 : Int64} {x4 : Int32} {kx : Nat} {y1 : Int32} {y2 : Int64} {y4 : Int32} {I1 : tI} {J1 : tJ}, f40_57_l3 N k I J x1 x2 x4 = some (kx, y1, y2, y4, I1, J1) → frO qfIA qfJA I I1 J J1
  | 0, _, _, _, _, _, _, _, _, _, _, _, hq => by cases hq
  | k + 1, I, J, x1, x2, x4, kx, y1, y2, y4, I1, J1, hq => by
    unfold f40_57_l3 at hq
    have f0 : frO qfIA qfJA I I J J := fO_refl
    rcases bsp hq with ⟨-, hq⟩ | ⟨-, hq⟩
    ·
      cases hq
      exact f0
    ·
      rcases bsp hq with ⟨-, hq⟩ | ⟨-, hq⟩
      ·
        cases hq
        exact f0
      ·
        rcases bsp hq with ⟨-, hq⟩ | ⟨-, hq⟩
        ·
          exact fO_tr f0 (f40_57_l3_frA k hq)
        ·
          cases hq
          exact f0
set_option maxRecDepth 100000 in
theorem f40_57_frA {N : Nat} {I : tI} {J : tJ} {a0 : Int32} {a1 : Int64} {v : Int32} {I1 : tI} {J1 : tJ} (hq : f40_57 N I J a0 a1 = some (v, I1, J1)) : frO qfIA qfJA I I1 J J1 := by
  unfold f40_57 at hq
  have f0 : frO qfIA qfJA I I J J := fO_refl
  cases e1 : f40_57_l3 N N I J a0 a1 0 with
  | none => rw [e1] at hq; cases hq
  | some Y =>
  obtain ⟨k1, y1_1, y1_2, y1_4, I1, J1⟩ := Y
  rw [e1] at hq
  dsimp only at hq
  have f1 := fO_tr f0 (f40_57_l3_frA N e1)
  rcases bsp hq with ⟨-, hq⟩ | ⟨-, hq⟩
  ·
    cases hq
    exact f1
  ·
    cases hq
    exact f1
set_option maxRecDepth 100000 in
theorem f82_35_frA {N : Nat} {I : tI} {J : tJ} {v : Int32} {I1 : tI} {J1 : tJ} (hq : f82_35 N I J = some (v, I1, J1)) : frO qfIA qfJA I I1 J J1 := by
  unfold f82_35 at hq
  have f0 : frO qfIA qfJA I I J J := fO_refl
  generalize e1 : f38_8 I J = q1 at hq
  obtain ⟨v1, I1, J1⟩ := q1
  dsimp only at hq
  have f1 := fO_tr f0 (f38_8_frA e1)
  rcases bsp hq with ⟨-, hq⟩ | ⟨-, hq⟩
  ·
    obtain ⟨v3, I3, J3, e3, hq⟩ := obI hq
    have f3 := fO_tr f1 (f40_39_frA e3)
    rcases bsp hq with ⟨-, hq⟩ | ⟨-, hq⟩
    ·
      exact fO_tr f3 (f82_35_j108_frA hq)
    ·
      obtain ⟨v5, I5, J5, e5, hq⟩ := obI hq
      have f5 := fO_tr f3 (f40_48_frA e5)
      rcases bsp hq with ⟨-, hq⟩ | ⟨-, hq⟩
      ·
        exact fO_tr f5 (f82_35_j108_frA hq)
      ·
        obtain ⟨v7, I7, J7, e7, hq⟩ := obI hq
        have f7 := fO_tr f5 (f40_57_frA e7)
        rcases bsp hq with ⟨-, hq⟩ | ⟨-, hq⟩
        ·
          exact fO_tr f7 (f82_35_j113_frA hq)
        ·
          exact fO_tr f7 (f82_35_j108_frA hq)
  ·
    cases hq
    exact f1
set_option maxRecDepth 100000 in
theorem f84_35_j76_frA {N : Nat} {I : tI} {J : tJ} {x1 : Int32} {v : Int32} {I1 : tI} {J1 : tJ} (hq : f84_35_j76 N I J x1 = some (v, I1, J1)) : frO qfIA qfJA I I1 J J1 := by
  unfold f84_35_j76 at hq
  have f0 : frO qfIA qfJA I I J J := fO_refl
  rcases bsp hq with ⟨-, hq⟩ | ⟨-, hq⟩
  ·
    cases hq
    exact f0
  ·
    obtain ⟨_, I3, J3, e3, hq⟩ := obU hq
    have f3 := fO_tr f0 (f25_8_frA e3)
    generalize e4 : f37_8 I3 J3 1 999 = q4 at hq
    obtain ⟨v4, I4, J4⟩ := q4
    dsimp only at hq
    have f4 := fO_tr f3 (f37_8_frA e4)
    rcases bsp hq with ⟨-, hq⟩ | ⟨-, hq⟩
    ·
      obtain ⟨_, I6, J6, e6, hq⟩ := obU hq
      have f6 := fO_tr (fO_I f4 rfl) (f25_8_frA e6)
      cases hq
      exact f6
    ·
      cases hq
      exact f4
set_option maxRecDepth 100000 in
theorem f84_35_frA {N : Nat} {I : tI} {J : tJ} {a0 : Int32} {v : Int32} {I1 : tI} {J1 : tJ} (hq : f84_35 N I J a0 = some (v, I1, J1)) : frO qfIA qfJA I I1 J J1 := by
  unfold f84_35 at hq
  have f0 : frO qfIA qfJA I I J J := fO_refl
  rcases bsp hq with ⟨-, hq⟩ | ⟨-, hq⟩
  ·
    exact fO_tr (fO_I (fO_I f0 rfl) rfl) (f84_35_j76_frA hq)
  ·
    obtain ⟨_, I2, J2, e2, hq⟩ := obU hq
    have f2 := fO_tr (fO_I (fO_I f0 rfl) rfl) (f25_8_frA e2)
    generalize e3 : f37_8 I2 J2 0 99 = q3 at hq
    obtain ⟨v3, I3, J3⟩ := q3
    dsimp only at hq
    have f3 := fO_tr f2 (f37_8_frA e3)
    rcases bsp hq with ⟨-, hq⟩ | ⟨-, hq⟩
    ·
      obtain ⟨_, I5, J5, e5, hq⟩ := obU hq
      have f5 := fO_tr (fO_I f3 rfl) (f25_8_frA e5)
      exact fO_tr f5 (f84_35_j76_frA hq)
    ·
      cases hq
      exact f3
set_option maxRecDepth 100000 in
theorem f85_35_frA {I : tI} {J : tJ} {v : Int32} {I1 : tI} {J1 : tJ} (hq : f85_35 I J = (v, I1, J1)) : frO qfIA qfJA I I1 J J1 := by
  unfold f85_35 at hq
  have f0 : frO qfIA qfJA I I J J := fO_refl
  generalize e1 : f127 I J (I 8 5) 16 20 = q1 at hq
  obtain ⟨v1, I1, J1⟩ := q1
  dsimp only at hq
  have f1 := fO_tr f0 (f127_frA e1)
  cases hq
  exact f1
set_option maxRecDepth 100000 in
theorem f86_35_l2_frA {N : Nat} : ∀ (k : Nat) {I : tI} {J : tJ} {x1 : Int32} {x2 : Int32} {y1 : Int32} {y2 : Int32} {I1 : tI} {J1 : tJ}, f86_35_l2 N k I J x1 x2 = some (y1, y2, I1, J1) → frO qfIA qfJA I I1 J J1
  | 0, _, _, _, _, _, _, _, _, hq => by cases hq
  | k + 1, I, J, x1, x2, y1, y2, I1, J1, hq => by
    unfold f86_35_l2 at hq
    have f0 : frO qfIA qfJA I I J J := fO_refl
    rcases bsp hq with ⟨-, hq⟩ | ⟨-, hq⟩
    ·
      cases hq
      exact f0
    ·
      generalize e2 : f85_35 I J = q2 at hq
      obtain ⟨v2, I2, J2⟩ := q2
      dsimp only at hq
      have f2 := fO_tr f0 (f85_35_frA e2)
      rcases bsp hq with ⟨-, hq⟩ | ⟨-, hq⟩
      ·
        cases hq
        exact f2
      ·
        obtain ⟨_, I4, J4, e4, hq⟩ := obU hq
        have f4 := fO_tr (fO_I f2 rfl) (f25_8_frA e4)
        exact fO_tr f4 (f86_35_l2_frA k hq)
set_option maxRecDepth 100000 in
theorem f86_35_j55_frA {N : Nat} {I : tI} {J : tJ} {x1 : Int32} {x2 : Int32} {v : Int32} {I1 : tI} {J1 : tJ} (hq : f86_35_j55 N I J x1 x2 = some (v, I1, J1)) : frO qfIA qfJA I I1 J J1 := by
  unfold f86_35_j55 at hq
  have f0 : frO qfIA qfJA I I J J := fO_refl
  generalize e2 : f85_35 (tup I 43 ((x1).toNatClampNeg) x2) J = q2 at hq
  obtain ⟨v2, I2, J2⟩ := q2
  dsimp only at hq
  have f2 := fO_tr (fO_I f0 rfl) (f85_35_frA e2)
  rcases bsp hq with ⟨-, hq⟩ | ⟨-, hq⟩
  ·
    rcases bsp hq with ⟨-, hq⟩ | ⟨-, hq⟩
    ·
      cases hq
      exact f2
    ·
      generalize e5 : f33_8 I2 J2 2 = q5 at hq
      obtain ⟨v5, I5, J5⟩ := q5
      dsimp only at hq
      have f5 := fO_tr f2 (f33_8_frA e5)
      rcases bsp hq with ⟨-, hq⟩ | ⟨-, hq⟩
      ·
        cases hq
        exact f5
      ·
        cases hq
        exact f5
  ·
    generalize e7 : f33_8 I2 J2 6 = q7 at hq
    obtain ⟨v7, I7, J7⟩ := q7
    dsimp only at hq
    have f7 := fO_tr f2 (f33_8_frA e7)
    cases hq
    exact f7
set_option maxRecDepth 100000 in
theorem f86_35_frA {N : Nat} {I : tI} {J : tJ} {a0 : Int32} {v : Int32} {I1 : tI} {J1 : tJ} (hq : f86_35 N I J a0 = some (v, I1, J1)) : frO qfIA qfJA I I1 J J1 := by
  unfold f86_35 at hq
  have f0 : frO qfIA qfJA I I J J := fO_refl
  cases e1 : f86_35_l2 N N I J a0 0 with
  | none => rw [e1] at hq; cases hq
  | some Y =>
  obtain ⟨y1_1, y1_2, I1, J1⟩ := Y
  rw [e1] at hq
  dsimp only at hq
  have f1 := fO_tr f0 (f86_35_l2_frA N e1)
  exact fO_tr f1 (f86_35_j55_frA hq)
set_option maxRecDepth 100000 in
theorem f83_35_frA {N : Nat} {I : tI} {J : tJ} {v : Int32} {I1 : tI} {J1 : tJ} (hq : f83_35 N I J = some (v, I1, J1)) : frO qfIA qfJA I I1 J J1 := by
  unfold f83_35 at hq
  have f0 : frO qfIA qfJA I I J J := fO_refl
  generalize e1 : f76_35 I J = q1 at hq
  obtain ⟨v1, I1, J1⟩ := q1
  dsimp only at hq
  have f1 := fO_tr f0 (f76_35_frA e1)
  rcases bsp hq with ⟨-, hq⟩ | ⟨-, hq⟩
  ·
    rcases bsp hq with ⟨-, hq⟩ | ⟨-, hq⟩
    ·
      obtain ⟨_, I4, J4, e4, hq⟩ := obU hq
      have f4 := fO_tr f1 (f25_8_frA e4)
      obtain ⟨v5, I5, J5, e5, hq⟩ := obI hq
      have f5 := fO_tr f4 (f82_35_frA e5)
      rcases bsp hq with ⟨-, hq⟩ | ⟨-, hq⟩
      ·
        obtain ⟨_, I7, J7, e7, hq⟩ := obU hq
        have f7 := fO_tr (fO_J f5 rfl) (f25_8_frA e7)
        obtain ⟨v8, I8, J8, e8, hq⟩ := obI hq
        have f8 := fO_tr f7 (f34_8_frA e8)
        rcases bsp hq with ⟨-, hq⟩ | ⟨-, hq⟩
        ·
          cases hq
          exact f8
        ·
          obtain ⟨v10, I10, J10, e10, hq⟩ := obI hq
          have f10 := fO_tr f8 (f80_35_frA e10)
          rcases bsp hq with ⟨-, hq⟩ | ⟨-, hq⟩
          ·
            obtain ⟨v12, I12, J12, e12, hq⟩ := obI hq
            have f12 := fO_tr (fO_I f10 rfl) (f84_35_frA e12)
            rcases bsp hq with ⟨-, hq⟩ | ⟨-, hq⟩
            ·
              cases hq
              exact f12
            ·
              obtain ⟨v14, I14, J14, e14, hq⟩ := obI hq
              have f14 := fO_tr f12 (f34_8_frA e14)
              rcases bsp hq with ⟨-, hq⟩ | ⟨-, hq⟩
              ·
                cases hq
                exact f14
              ·
                obtain ⟨v16, I16, J16, e16, hq⟩ := obI hq
                have f16 := fO_tr f14 (f86_35_frA e16)
                rcases bsp hq with ⟨-, hq⟩ | ⟨-, hq⟩
                ·
                  obtain ⟨v18, I18, J18, e18, hq⟩ := obI hq
                  have f18 := fO_tr (fO_I f16 rfl) (f35_8_frA e18)
                  cases hq
                  exact f18
                ·
                  cases hq
                  exact f16
          ·
            cases hq
            exact f10
      ·
        cases hq
        exact f5
    ·
      generalize e19 : f33_8 I1 J1 6 = q19 at hq
      obtain ⟨v19, I19, J19⟩ := q19
      dsimp only at hq
      have f19 := fO_tr f1 (f33_8_frA e19)
      cases hq
      exact f19
  ·
    generalize e20 : f33_8 I1 J1 2 = q20 at hq
    obtain ⟨v20, I20, J20⟩ := q20
    dsimp only at hq
    have f20 := fO_tr f1 (f33_8_frA e20)
    cases hq
    exact f20
set_option maxRecDepth 100000 in
theorem f39_8_39_frA {N : Nat} {I : tI} {J : tJ} {a0 : Int32} {v : Int32} {I1 : tI} {J1 : tJ} (hq : f39_8_39 N I J a0 = some (v, I1, J1)) : frO qfIA qfJA I I1 J J1 := by
  unfold f39_8_39 at hq
  have f0 : frO qfIA qfJA I I J J := fO_refl
  generalize e1 : f38_8 I J = q1 at hq
  obtain ⟨v1, I1, J1⟩ := q1
  dsimp only at hq
  have f1 := fO_tr f0 (f38_8_frA e1)
  rcases bsp hq with ⟨-, hq⟩ | ⟨-, hq⟩
  ·
    obtain ⟨v3, I3, J3, e3, hq⟩ := obI hq
    have f3 := fO_tr f1 (f40_39_frA e3)
    rcases bsp hq with ⟨-, hq⟩ | ⟨-, hq⟩
    ·
      cases hq
      exact (fO_I f3 rfl)
    ·
      generalize e5 : f33_8 (tup I3 8 8 v3) J3 3 = q5 at hq
      obtain ⟨v5, I5, J5⟩ := q5
      dsimp only at hq
      have f5 := fO_tr (fO_I f3 rfl) (f33_8_frA e5)
      rcases bsp hq with ⟨-, hq⟩ | ⟨-, hq⟩
      ·
        cases hq
        exact f5
      ·
        cases hq
        exact f5
  ·
    cases hq
    exact f1
set_option maxRecDepth 100000 in
theorem f88_35_frA {N : Nat} {I : tI} {J : tJ} {a0 : Int32} {v : Int32} {I1 : tI} {J1 : tJ} (hq : f88_35 N I J a0 = some (v, I1, J1)) : frO qfIA qfJA I I1 J J1 := by
  unfold f88_35 at hq
  have f0 : frO qfIA qfJA I I J J := fO_refl
  obtain ⟨v1, I1, J1, e1, hq⟩ := obI hq
  have f1 := fO_tr f0 (f39_8_39_frA e1)
  rcases bsp hq with ⟨-, hq⟩ | ⟨-, hq⟩
  ·
    obtain ⟨_, I3, J3, e3, hq⟩ := obU hq
    have f3 := fO_tr (fO_I f1 rfl) (f25_8_frA e3)
    rcases bsp hq with ⟨-, hq⟩ | ⟨-, hq⟩
    ·
      obtain ⟨v5, I5, J5, e5, hq⟩ := obI hq
      have f5 := fO_tr f3 (f34_8_frA e5)
      rcases bsp hq with ⟨-, hq⟩ | ⟨-, hq⟩
      ·
        cases hq
        exact f5
      ·
        obtain ⟨v7, I7, J7, e7, hq⟩ := obI hq
        have f7 := fO_tr f5 (f39_8_39_frA e7)
        rcases bsp hq with ⟨-, hq⟩ | ⟨-, hq⟩
        ·
          rcases bsp hq with ⟨-, hq⟩ | ⟨-, hq⟩
          ·
            obtain ⟨_, I10, J10, e10, hq⟩ := obU hq
            have f10 := fO_tr (fO_I (fO_I f7 rfl) rfl) (f25_8_frA e10)
            cases hq
            exact f10
          ·
            generalize e11 : f33_8 I7 J7 5 = q11 at hq
            obtain ⟨v11, I11, J11⟩ := q11
            dsimp only at hq
            have f11 := fO_tr f7 (f33_8_frA e11)
            cases hq
            exact f11
        ·
          cases hq
          exact f7
    ·
      obtain ⟨_, I12, J12, e12, hq⟩ := obU hq
      have f12 := fO_tr f3 (f25_8_frA e12)
      obtain ⟨v13, I13, J13, e13, hq⟩ := obI hq
      have f13 := fO_tr f12 (f79_35_frA e13)
      rcases bsp hq with ⟨-, hq⟩ | ⟨-, hq⟩
      ·
        obtain ⟨_, I15, J15, e15, hq⟩ := obU hq
        have f15 := fO_tr (fO_I (fO_I f13 rfl) rfl) (f25_8_frA e15)
        cases hq
        exact f15
      ·
        cases hq
        exact f13
  ·
    cases hq
    exact f1
set_option maxRecDepth 100000 in
theorem f87_35_j149_frA {N : Nat} {I : tI} {J : tJ} {v : Int32} {I1 : tI} {J1 : tJ} (hq : f87_35_j149 N I J = some (v, I1, J1)) : frO qfIA qfJA I I1 J J1 := by
  unfold f87_35_j149 at hq
  have f0 : frO qfIA qfJA I I J J := fO_refl
  obtain ⟨v13, I13, J13, e13, hq⟩ := obI hq
  have f13 := fO_tr (fO_I f0 rfl) (f35_8_frA e13)
  cases hq
  exact f13
set_option maxRecDepth 100000 in
theorem f87_35_frA {N : Nat} {I : tI} {J : tJ} {v : Int32} {I1 : tI} {J1 : tJ} (hq : f87_35 N I J = some (v, I1, J1)) : frO qfIA qfJA I I1 J J1 := by
  unfold f87_35 at hq
  have f0 : frO qfIA qfJA I I J J := fO_refl
  generalize e1 : f76_35 I J = q1 at hq
  obtain ⟨v1, I1, J1⟩ := q1
  dsimp only at hq
  have f1 := fO_tr f0 (f76_35_frA e1)
  rcases bsp hq with ⟨-, hq⟩ | ⟨-, hq⟩
  ·
    rcases bsp hq with ⟨-, hq⟩ | ⟨-, hq⟩
    ·
      obtain ⟨_, I4, J4, e4, hq⟩ := obU hq
      have f4 := fO_tr f1 (f25_8_frA e4)
      obtain ⟨v5, I5, J5, e5, hq⟩ := obI hq
      have f5 := fO_tr f4 (f82_35_frA e5)
      rcases bsp hq with ⟨-, hq⟩ | ⟨-, hq⟩
      ·
        obtain ⟨_, I7, J7, e7, hq⟩ := obU hq
        have f7 := fO_tr (fO_J f5 rfl) (f25_8_frA e7)
        rcases bsp hq with ⟨-, hq⟩ | ⟨-, hq⟩
        ·
          obtain ⟨v9, I9, J9, e9, hq⟩ := obI hq
          have f9 := fO_tr f7 (f34_8_frA e9)
          rcases bsp hq with ⟨-, hq⟩ | ⟨-, hq⟩
          ·
            cases hq
            exact f9
          ·
            obtain ⟨v11, I11, J11, e11, hq⟩ := obI hq
            have f11 := fO_tr f9 (f88_35_frA e11)
            rcases bsp hq with ⟨-, hq⟩ | ⟨-, hq⟩
            ·
              exact fO_tr f11 (f87_35_j149_frA hq)
            ·
              cases hq
              exact f11
        ·
          obtain ⟨_, I13, J13, e13, hq⟩ := obU hq
          have f13 := fO_tr f7 (f25_8_frA e13)
          exact fO_tr (fO_I (fO_I (fO_I f13 rfl) rfl) rfl) (f87_35_j149_frA hq)
      ·
        cases hq
        exact f5
    ·
      generalize e14 : f33_8 I1 J1 6 = q14 at hq
      obtain ⟨v14, I14, J14⟩ := q14
      dsimp only at hq
      have f14 := fO_tr f1 (f33_8_frA e14)
      cases hq
      exact f14
  ·
    generalize e15 : f33_8 I1 J1 2 = q15 at hq
    obtain ⟨v15, I15, J15⟩ := q15
    dsimp only at hq
    have f15 := fO_tr f1 (f33_8_frA e15)
    cases hq
    exact f15
set_option maxRecDepth 100000 in
theorem f89_35_j137_frA {N : Nat} {I : tI} {J : tJ} {v : Int32} {I1 : tI} {J1 : tJ} (hq : f89_35_j137 N I J = some (v, I1, J1)) : frO qfIA qfJA I I1 J J1 := by
  unfold f89_35_j137 at hq
  have f0 : frO qfIA qfJA I I J J := fO_refl
  obtain ⟨v7, I7, J7, e7, hq⟩ := obI hq
  have f7 := fO_tr (fO_I f0 rfl) (f35_8_frA e7)
  cases hq
  exact f7
set_option maxRecDepth 100000 in
theorem f89_35_frA {N : Nat} {I : tI} {J : tJ} {v : Int32} {I1 : tI} {J1 : tJ} (hq : f89_35 N I J = some (v, I1, J1)) : frO qfIA qfJA I I1 J J1 := by
  unfold f89_35 at hq
  have f0 : frO qfIA qfJA I I J J := fO_refl
  rcases bsp hq with ⟨-, hq⟩ | ⟨-, hq⟩
  ·
    obtain ⟨_, I2, J2, e2, hq⟩ := obU hq
    have f2 := fO_tr f0 (f25_8_frA e2)
    obtain ⟨v3, I3, J3, e3, hq⟩ := obI hq
    have f3 := fO_tr f2 (f82_35_frA e3)
    rcases bsp hq with ⟨-, hq⟩ | ⟨-, hq⟩
    ·
      obtain ⟨_, I5, J5, e5, hq⟩ := obU hq
      have f5 := fO_tr (fO_J (fO_I f3 rfl) rfl) (f25_8_frA e5)
      rcases bsp hq with ⟨-, hq⟩ | ⟨-, hq⟩
      ·
        exact fO_tr f5 (f89_35_j137_frA hq)
      ·
        obtain ⟨_, I7, J7, e7, hq⟩ := obU hq
        have f7 := fO_tr f5 (f25_8_frA e7)
        generalize e8 : f37_8 I7 J7 0 9999 = q8 at hq
        obtain ⟨v8, I8, J8⟩ := q8
        dsimp only at hq
        have f8 := fO_tr f7 (f37_8_frA e8)
        rcases bsp hq with ⟨-, hq⟩ | ⟨-, hq⟩
        ·
          obtain ⟨_, I10, J10, e10, hq⟩ := obU hq
          have f10 := fO_tr (fO_I f8 rfl) (f25_8_frA e10)
          exact fO_tr f10 (f89_35_j137_frA hq)
        ·
          cases hq
          exact f8
    ·
      cases hq
      exact f3
  ·
    generalize e11 : f33_8 I J 6 = q11 at hq
    obtain ⟨v11, I11, J11⟩ := q11
    dsimp only at hq
    have f11 := fO_tr f0 (f33_8_frA e11)
    cases hq
    exact f11
set_option maxRecDepth 100000 in
theorem f75_35_l24_frA {N : Nat} : ∀ (k : Nat) {I : tI} {J : tJ} {x2 : Int32} {x3 : Int32} {y2 : Int32} {y3 : Int32} {I1 : tI} {J1 : tJ}, f75_35_l24 N k I J x2 x3 = some (y2, y3, I1, J1) → frO qfIA qfJA I I1 J J1
  | 0, _, _, _, _, _, _, _, _, hq => by cases hq
  | k + 1, I, J, x2, x3, y2, y3, I1, J1, hq => by
    unfold f75_35_l24 at hq
    have f0 : frO qfIA qfJA I I J J := fO_refl
    rcases bsp hq with ⟨-, hq⟩ | ⟨-, hq⟩
    ·
      cases hq
      exact f0
    ·
      rcases bsp hq with ⟨-, hq⟩ | ⟨-, hq⟩
      ·
        cases hq
        exact f0
      ·
        generalize e5 : f32_8 I J = q5 at hq
        obtain ⟨v5, I5, J5⟩ := q5
        dsimp only at hq
        have f5 := fO_tr f0 (f32_8_frA e5)
        rcases bsp hq with ⟨-, hq⟩ | ⟨-, hq⟩
        ·
          cases hq
          exact f5
        ·
          rcases bsp hq with ⟨-, hq⟩ | ⟨-, hq⟩
          ·
            obtain ⟨v8, I8, J8, e8, hq⟩ := obI hq
            have f8 := fO_tr f5 (f77_35_frA e8)
            exact fO_tr f8 (f75_35_l24_frA k hq)
          ·
            rcases bsp hq with ⟨-, hq⟩ | ⟨-, hq⟩
            ·
              obtain ⟨v10, I10, J10, e10, hq⟩ := obI hq
              have f10 := fO_tr f5 (f78_35_frA e10)
              exact fO_tr f10 (f75_35_l24_frA k hq)
            ·
              rcases bsp hq with ⟨-, hq⟩ | ⟨-, hq⟩
              ·
                obtain ⟨v12, I12, J12, e12, hq⟩ := obI hq
                have f12 := fO_tr f5 (f81_35_frA e12)
                exact fO_tr f12 (f75_35_l24_frA k hq)
              ·
                rcases bsp hq with ⟨-, hq⟩ | ⟨-, hq⟩
                ·
                  obtain ⟨v14, I14, J14, e14, hq⟩ := obI hq
                  have f14 := fO_tr f5 (f83_35_frA e14)
                  exact fO_tr f14 (f75_35_l24_frA k hq)
                ·
                  rcases bsp hq with ⟨-, hq⟩ | ⟨-, hq⟩
                  ·
                    obtain ⟨v16, I16, J16, e16, hq⟩ := obI hq
                    have f16 := fO_tr f5 (f87_35_frA e16)
                    exact fO_tr f16 (f75_35_l24_frA k hq)
                  ·
                    rcases bsp hq with ⟨-, hq⟩ | ⟨-, hq⟩
                    ·
                      obtain ⟨v18, I18, J18, e18, hq⟩ := obI hq
                      have f18 := fO_tr f5 (f89_35_frA e18)
                      exact fO_tr f18 (f75_35_l24_frA k hq)
                    ·
                      generalize e19 : f33_8 I5 J5 2 = q19 at hq
                      obtain ⟨v19, I19, J19⟩ := q19
                      dsimp only at hq
                      have f19 := fO_tr f5 (f33_8_frA e19)
                      exact fO_tr f19 (f75_35_l24_frA k hq)
set_option maxRecDepth 100000 in
theorem f11_38_l7_frA {N : Nat} : ∀ (k : Nat) {I : tI} {J : tJ} {x1 : Int32} {y1 : Int32} {I1 : tI} {J1 : tJ}, f11_38_l7 N k I J x1 = some (y1, I1, J1) → frO qfIA qfJA I I1 J J1
  | 0, _, _, _, _, _, _, hq => by cases hq
  | k + 1, I, J, x1, y1, I1, J1, hq => by
    unfold f11_38_l7 at hq
    have f0 : frO qfIA qfJA I I J J := fO_refl
    rcases bsp hq with ⟨-, hq⟩ | ⟨-, hq⟩
    ·
      cases hq
      exact f0
    ·
      rcases bsp hq with ⟨-, hq⟩ | ⟨-, hq⟩
      ·
        exact fO_tr (fO_I (fO_I f0 rfl) rfl) (f11_38_l7_frA k hq)
      ·
        exact fO_tr (fO_I (fO_I f0 rfl) rfl) (f11_38_l7_frA k hq)
set_option maxRecDepth 100000 in
theorem f11_38_frA {N : Nat} {I : tI} {J : tJ} {v : Unit} {I1 : tI} {J1 : tJ} (hq : f11_38 N I J = some (v, I1, J1)) : frO qfIA qfJA I I1 J J1 := by
  unfold f11_38 at hq
  have f0 : frO qfIA qfJA I I J J := fO_refl
  cases e1 : f11_38_l7 N N (tup I 38 1 0) J 0 with
  | none => rw [e1] at hq; cases hq
  | some Y =>
  obtain ⟨y1_1, I1, J1⟩ := Y
  rw [e1] at hq
  dsimp only at hq
  have f1 := fO_tr (fO_I f0 rfl) (f11_38_l7_frA N e1)
  cases hq
  exact f1
set_option maxRecDepth 100000 in
theorem f75_35_frA {N : Nat} {I : tI} {J : tJ} {a0 : Int32} {v : Int32} {I1 : tI} {J1 : tJ} (hq : f75_35 N I J a0 = some (v, I1, J1)) : frO qfIA qfJA I I1 J J1 := by
  unfold f75_35 at hq
  have f0 : frO qfIA qfJA I I J J := fO_refl
  obtain ⟨_, I1, J1, e1, hq⟩ := obU hq
  have f1 := fO_tr f0 (f104_36_frA e1)
  obtain ⟨_, I2, J2, e2, hq⟩ := obU hq
  have f2 := fO_tr (fO_I f1 rfl) (f24_8_frA e2)
  cases e3 : f75_35_l24 N N I2 J2 1 0 with
  | none => rw [e3] at hq; cases hq
  | some Y =>
  obtain ⟨y3_2, y3_3, I3, J3⟩ := Y
  rw [e3] at hq
  dsimp only at hq
  have f3 := fO_tr f2 (f75_35_l24_frA N e3)
  rcases bsp hq with ⟨-, hq⟩ | ⟨-, hq⟩
  ·
    cases hq
    exact f3
  ·
    obtain ⟨_, I5, J5, e5, hq⟩ := obU hq
    have f5 := fO_tr f3 (f11_38_frA e5)
    cases hq
    exact f5
def qfIC : Nat → Nat → Bool := fun o _ => Nat.beq o 185
def qfJC : Nat → Nat → Bool := fun _ _ => false
set_option maxRecDepth 100000 in
theorem f219_185_frC {I : tI} {J : tJ} {a0 : Int32} {v : Int32} {I1 : tI} {J1 : tJ} (hq : f219_185 I J a0 = (v, I1, J1)) : frO qfIC qfJC I I1 J J1 := by
  unfold f219_185 at hq
  have f0 : frO qfIC qfJC I I J J := fO_refl
  rcases bsp hq with ⟨-, hq⟩ | ⟨-, hq⟩
  ·
    cases hq
    exact f0
  ·
    cases hq
    exact f0
set_option maxRecDepth 100000 in
theorem f222_185_l0_frC {N : Nat} : ∀ (k : Nat) {I : tI} {J : tJ} {I1 : tI} {J1 : tJ}, f222_185_l0 N k I J = some (I1, J1) → frO qfIC qfJC I I1 J J1
  | 0, _, _, _, _, hq => by cases hq
  | k + 1, I, J, I1, J1, hq => by
    unfold f222_185_l0 at hq
    have f0 : frO qfIC qfJC I I J J := fO_refl
    generalize e1 : f219_185 I J (I 185 14) = q1 at hq
    obtain ⟨v1, I1, J1⟩ := q1
    dsimp only at hq
    have f1 := fO_tr f0 (f219_185_frC e1)
    rcases bsp hq with ⟨-, hq⟩ | ⟨-, hq⟩
    ·
      exact fO_tr (fO_I f1 rfl) (f222_185_l0_frC k hq)
    ·
      generalize e3 : f219_185 I1 J1 (I1 185 14) = q3 at hq
      obtain ⟨v3, I3, J3⟩ := q3
      dsimp only at hq
      have f3 := fO_tr f1 (f219_185_frC e3)
      rcases bsp hq with ⟨-, hq⟩ | ⟨-, hq⟩
      ·
        cases hq
        exact f3
      ·
        exact fO_tr (fO_I f3 rfl) (f222_185_l0_frC k hq)
set_option maxRecDepth 100000 in
theorem f220_frC {I : tI} {J : tJ} {a0 : Int32} {v : Int32} {I1 : tI} {J1 : tJ} (hq : f220 I J a0 = (v, I1, J1)) : frO qfIC qfJC I I1 J J1 := by
  unfold f220 at hq
  have f0 : frO qfIC qfJC I I J J := fO_refl
  rcases bsp hq with ⟨-, hq⟩ | ⟨-, hq⟩
  ·
    cases hq
    exact f0
  ·
    rcases bsp hq with ⟨-, hq⟩ | ⟨-, hq⟩
    ·
      cases hq
      exact f0
    ·
      cases hq
      exact f0
set_option maxRecDepth 100000 in
theorem f221_frC {I : tI} {J : tJ} {a0 : Int32} {v : Int32} {I1 : tI} {J1 : tJ} (hq : f221 I J a0 = (v, I1, J1)) : frO qfIC qfJC I I1 J J1 := by
  unfold f221 at hq
  have f0 : frO qfIC qfJC I I J J := fO_refl
  rcases bsp hq with ⟨-, hq⟩ | ⟨-, hq⟩
  ·
    cases hq
    exact f0
  ·
    rcases bsp hq with ⟨-, hq⟩ | ⟨-, hq⟩
    ·
      cases hq
      exact f0
    ·
      cases hq
      exact f0
set_option maxRecDepth 100000 in
theorem f222_185_l128_frC {N : Nat} : ∀ (k : Nat) {I : tI} {J : tJ} {I1 : tI} {J1 : tJ}, f222_185_l128 N k I J = some (I1, J1) → frO qfIC qfJC I I1 J J1
  | 0, _, _, _, _, hq => by cases hq
  | k + 1, I, J, I1, J1, hq => by
    unfold f222_185_l128 at hq
    have f0 : frO qfIC qfJC I I J J := fO_refl
    generalize e12 : f219_185 I J (I 185 14) = q12 at hq
    obtain ⟨v12, I12, J12⟩ := q12
    dsimp only at hq
    have f12 := fO_tr f0 (f219_185_frC e12)
    generalize e13 : f221 I12 J12 v12 = q13 at hq
    obtain ⟨v13, I13, J13⟩ := q13
    dsimp only at hq
    have f13 := fO_tr f12 (f221_frC e13)
    rcases bsp hq with ⟨-, hq⟩ | ⟨-, hq⟩
    ·
      cases hq
      exact f13
    ·
      generalize e15 : f219_185 I13 J13 (I13 185 14) = q15 at hq
      obtain ⟨v15, I15, J15⟩ := q15
      dsimp only at hq
      have f15 := fO_tr f13 (f219_185_frC e15)
      exact fO_tr (fO_I (fO_I f15 rfl) rfl) (f222_185_l128_frC k hq)
set_option maxRecDepth 100000 in
theorem f222_185_l81_frC {N : Nat} : ∀ (k : Nat) {I : tI} {J : tJ} {I1 : tI} {J1 : tJ}, f222_185_l81 N k I J = some (I1, J1) → frO qfIC qfJC I I1 J J1
  | 0, _, _, _, _, hq => by cases hq
  | k + 1, I, J, I1, J1, hq => by
    unfold f222_185_l81 at hq
    have f0 : frO qfIC qfJC I I J J := fO_refl
    generalize e14 : f219_185 I J (I 185 14) = q14 at hq
    obtain ⟨v14, I14, J14⟩ := q14
    dsimp only at hq
    have f14 := fO_tr f0 (f219_185_frC e14)
    generalize e15 : f220 I14 J14 v14 = q15 at hq
    obtain ⟨v15, I15, J15⟩ := q15
    dsimp only at hq
    have f15 := fO_tr f14 (f220_frC e15)
    rcases bsp hq with ⟨-, hq⟩ | ⟨-, hq⟩
    ·
      cases hq
      exact f15
    ·
      exact fO_tr (fO_I f15 rfl) (f222_185_l81_frC k hq)
set_option maxRecDepth 100000 in
theorem f222_185_frC {N : Nat} {I : tI} {J : tJ} {v : Unit} {I1 : tI} {J1 : tJ} (hq : f222_185 N I J = some (v, I1, J1)) : frO qfIC qfJC I I1 J J1 := by
  unfold f222_185 at hq
  have f0 : frO qfIC qfJC I I J J := fO_refl
  cases e1 : f222_185_l0 N N I J with
  | none => rw [e1] at hq; cases hq
  | some Y =>
  obtain ⟨I1, J1⟩ := Y
  rw [e1] at hq
  dsimp only at hq
  have f1 := fO_tr f0 (f222_185_l0_frC N e1)
  generalize e2 : f219_185 (tup I1 185 13 (I1 185 14)) J1 (I1 185 14) = q2 at hq
  obtain ⟨v2, I2, J2⟩ := q2
  dsimp only at hq
  have f2 := fO_tr (fO_I f1 rfl) (f219_185_frC e2)
  rcases bsp hq with ⟨-, hq⟩ | ⟨-, hq⟩
  ·
    generalize e4 : f220 (tup I2 185 15 v2) J2 v2 = q4 at hq
    obtain ⟨v4, I4, J4⟩ := q4
    dsimp only at hq
    have f4 := fO_tr (fO_I f2 rfl) (f220_frC e4)
    rcases bsp hq with ⟨-, hq⟩ | ⟨-, hq⟩
    ·
      generalize e6 : f221 I4 J4 v2 = q6 at hq
      obtain ⟨v6, I6, J6⟩ := q6
      dsimp only at hq
      have f6 := fO_tr f4 (f221_frC e6)
      rcases bsp hq with ⟨-, hq⟩ | ⟨-, hq⟩
      ·
        rcases bsp hq with ⟨-, hq⟩ | ⟨-, hq⟩
        ·
          cases hq
          exact (fO_I (fO_I f6 rfl) rfl)
        ·
          rcases bsp hq with ⟨-, hq⟩ | ⟨-, hq⟩
          ·
            cases hq
            exact (fO_I (fO_I f6 rfl) rfl)
          ·
            rcases bsp hq with ⟨-, hq⟩ | ⟨-, hq⟩
            ·
              cases hq
              exact (fO_I (fO_I f6 rfl) rfl)
            ·
              rcases bsp hq with ⟨-, hq⟩ | ⟨-, hq⟩
              ·
                cases hq
                exact (fO_I (fO_I f6 rfl) rfl)
              ·
                cases hq
                exact (fO_I (fO_I f6 rfl) rfl)
      ·
        cases e12 : f222_185_l128 N N (tup I6 185 15 0) J6 with
        | none => rw [e12] at hq; cases hq
        | some Y =>
        obtain ⟨I12, J12⟩ := Y
        rw [e12] at hq
        dsimp only at hq
        have f12 := fO_tr (fO_I f6 rfl) (f222_185_l128_frC N e12)
        rcases bsp hq with ⟨-, hq⟩ | ⟨-, hq⟩
        ·
          cases hq
          exact (fO_I f12 rfl)
        ·
          cases hq
          exact (fO_I f12 rfl)
    ·
      cases e14 : f222_185_l81 N N I4 J4 with
      | none => rw [e14] at hq; cases hq
      | some Y =>
      obtain ⟨I14, J14⟩ := Y
      rw [e14] at hq
      dsimp only at hq
      have f14 := fO_tr f4 (f222_185_l81_frC N e14)
      cases hq
      exact (fO_I f14 rfl)
  ·
    cases hq
    exact (fO_I (fO_I f2 rfl) rfl)
set_option maxRecDepth 100000 in
theorem f224_185_1002_l25_frC {N : Nat} : ∀ (k : Nat) {I : tI} {J : tJ} {x2 : Int32} {x3 : Int32} {x4 : Int32} {y2 : Int32} {y3 : Int32} {y4 : Int32} {I1 : tI} {J1 : tJ}, f224_185_1002_l25 N k I J x2 x3 x4 = some (y2, y3, y4, I1, J1) → frO qfIC qfJC I I1 J J1
  | 0, _, _, _, _, _, _, _, _, _, _, hq => by cases hq
  | k + 1, I, J, x2, x3, x4, y2, y3, y4, I1, J1, hq => by
    unfold f224_185_1002_l25 at hq
    have f0 : frO qfIC qfJC I I J J := fO_refl
    rcases bsp hq with ⟨-, hq⟩ | ⟨-, hq⟩
    ·
      cases hq
      exact f0
    ·
      exact fO_tr f0 (f224_185_1002_l25_frC k hq)
set_option maxRecDepth 100000 in
theorem f224_185_1002_l68_frC {N : Nat} : ∀ (k : Nat) {I : tI} {J : tJ} {x2 : Int32} {x3 : Int32} {x4 : Int32} {x5 : Int32} {x6 : Int32} {y2 : Int32} {y3 : Int32} {y4 : Int32} {y5 : Int32} {y6 : Int32} {I1 : tI} {J1 : tJ}, f224_185_1002_l68 N k I J x2 x3 x4 x5 x6 = some (y2, y3, y4, y5, y6, I1, J1) → frO qfIC qfJC I I1 J J1
  | 0, _, _, _, _, _, _, _, _, _, _, _, _, _, _, hq => by cases hq
  | k + 1, I, J, x2, x3, x4, x5, x6, y2, y3, y4, y5, y6, I1, J1, hq => by
    unfold f224_185_1002_l68 at hq
    have f0 : frO qfIC qfJC I I J J := fO_refl
    rcases bsp hq with ⟨-, hq⟩ | ⟨-, hq⟩
    ·
      cases hq
      exact f0
    ·
      rcases bsp hq with ⟨-, hq⟩ | ⟨-, hq⟩
      ·
        cases hq
        exact f0
      ·
        generalize e7 : f219_185 I J (((I 185 13) + x6) - x3) = q7 at hq
        obtain ⟨v7, I7, J7⟩ := q7
        dsimp only at hq
        have f7 := fO_tr f0 (f219_185_frC e7)
        rcases bsp hq with ⟨-, hq⟩ | ⟨-, hq⟩
        ·
          exact fO_tr f7 (f224_185_1002_l68_frC k hq)
        ·
          exact fO_tr f7 (f224_185_1002_l68_frC k hq)
set_option maxRecDepth 100000 in
theorem f224_185_1002_l14_frC {N : Nat} : ∀ (k : Nat) {I : tI} {J : tJ} {x2 : Int32} {x3 : Int32} {kx : Nat} {y2 : Int32} {y3 : Int32} {I1 : tI} {J1 : tJ}, f224_185_1002_l14 N k I J x2 x3 = some (kx, y2, y3, I1, J1) → frO qfIC qfJC I I1 J J1
  | 0, _, _, _, _, _, _, _, _, _, hq => by cases hq
  | k + 1, I, J, x2, x3, kx, y2, y3, I1, J1, hq => by
    unfold f224_185_1002_l14 at hq
    have f0 : frO qfIC qfJC I I J J := fO_refl
    rcases bsp hq with ⟨-, hq⟩ | ⟨-, hq⟩
    ·
      cases hq
      exact f0
    ·
      cases e3 : f224_185_1002_l25 N N I J x2 x3 x3 with
      | none => rw [e3] at hq; cases hq
      | some Y =>
      obtain ⟨y3_2, y3_3, y3_4, I3, J3⟩ := Y
      rw [e3] at hq
      dsimp only at hq
      have f3 := fO_tr f0 (f224_185_1002_l25_frC N e3)
      rcases bsp hq with ⟨-, hq⟩ | ⟨-, hq⟩
      ·
        cases e5 : f224_185_1002_l68 N N I3 J3 y3_2 y3_3 y3_4 0 y3_3 with
        | none => rw [e5] at hq; cases hq
        | some Y =>
        obtain ⟨y5_2, y5_3, y5_4, y5_5, y5_6, I5, J5⟩ := Y
        rw [e5] at hq
        dsimp only at hq
        have f5 := fO_tr f3 (f224_185_1002_l68_frC N e5)
        rcases bsp hq with ⟨-, hq⟩ | ⟨-, hq⟩
        ·
          exact fO_tr f5 (f224_185_1002_l14_frC k hq)
        ·
          cases hq
          exact f5
      ·
        cases e7 : f224_185_1002_l68 N N I3 J3 y3_2 y3_3 y3_4 1 y3_3 with
        | none => rw [e7] at hq; cases hq
        | some Y =>
        obtain ⟨y7_2, y7_3, y7_4, y7_5, y7_6, I7, J7⟩ := Y
        rw [e7] at hq
        dsimp only at hq
        have f7 := fO_tr f3 (f224_185_1002_l68_frC N e7)
        rcases bsp hq with ⟨-, hq⟩ | ⟨-, hq⟩
        ·
          exact fO_tr f7 (f224_185_1002_l14_frC k hq)
        ·
          cases hq
          exact f7
set_option maxRecDepth 100000 in
theorem f224_185_1002_frC {N : Nat} {I : tI} {J : tJ} {v : Int32} {I1 : tI} {J1 : tJ} (hq : f224_185_1002 N I J = some (v, I1, J1)) : frO qfIC qfJC I I1 J J1 := by
  unfold f224_185_1002 at hq
  have f0 : frO qfIC qfJC I I J J := fO_refl
  rcases bsp hq with ⟨-, hq⟩ | ⟨-, hq⟩
  ·
    cases e2 : f224_185_1002_l14 N N I J 0 1 with
    | none => rw [e2] at hq; cases hq
    | some Y =>
    obtain ⟨k2, y2_2, y2_3, I2, J2⟩ := Y
    rw [e2] at hq
    dsimp only at hq
    have f2 := fO_tr f0 (f224_185_1002_l14_frC N e2)
    rcases bsp hq with ⟨-, hq⟩ | ⟨-, hq⟩
    ·
      cases hq
      exact f2
    ·
      cases hq
      exact f2
  ·
    cases hq
    exact f0
set_option maxRecDepth 100000 in
theorem f225_185_frC {I : tI} {J : tJ} {a0 : Int32} {v : Int32} {I1 : tI} {J1 : tJ} (hq : f225_185 I J a0 = (v, I1, J1)) : frO qfIC qfJC I I1 J J1 := by
  unfold f225_185 at hq
  have f0 : frO qfIC qfJC I I J J := fO_refl
  rcases bsp hq with ⟨-, hq⟩ | ⟨-, hq⟩
  ·
    cases hq
    exact f0
  ·
    rcases bsp hq with ⟨-, hq⟩ | ⟨-, hq⟩
    ·
      cases hq
      exact (fO_I (fO_I f0 rfl) rfl)
    ·
      cases hq
      exact (fO_I (fO_I f0 rfl) rfl)
set_option maxRecDepth 100000 in
theorem f230_185_1002_frC {N : Nat} {I : tI} {J : tJ} {v : Int32} {I1 : tI} {J1 : tJ} (hq : f230_185_1002 N I J = some (v, I1, J1)) : frO qfIC qfJC I I1 J J1 := by
  unfold f230_185_1002 at hq
  have f0 : frO qfIC qfJC I I J J := fO_refl
  rcases bsp hq with ⟨-, hq⟩ | ⟨-, hq⟩
  ·
    cases hq
    exact f0
  ·
    rcases bsp hq with ⟨-, hq⟩ | ⟨-, hq⟩
    ·
      cases hq
      exact f0
    ·
      obtain ⟨v3, I3, J3, e3, hq⟩ := obI hq
      have f3 := fO_tr f0 (f224_185_1002_frC e3)
      rcases bsp hq with ⟨-, hq⟩ | ⟨-, hq⟩
      ·
        cases hq
        exact f3
      ·
        cases hq
        exact f3
set_option maxRecDepth 100000 in
theorem f231_185_l7_frC {N : Nat} : ∀ (k : Nat) {I : tI} {J : tJ} {x1 : Int64} {x3 : Int32} {y1 : Int64} {y3 : Int32} {I1 : tI} {J1 : tJ}, f231_185_l7 N k I J x1 x3 = some (y1, y3, I1, J1) → frO qfIC qfJC I I1 J J1
  | 0, _, _, _, _, _, _, _, _, hq => by cases hq
  | k + 1, I, J, x1, x3, y1, y3, I1, J1, hq => by
    unfold f231_185_l7 at hq
    have f0 : frO qfIC qfJC I I J J := fO_refl
    rcases bsp hq with ⟨-, hq⟩ | ⟨-, hq⟩
    ·
      cases hq
      exact f0
    ·
      generalize e2 : f219_185 I J x3 = q2 at hq
      obtain ⟨v2, I2, J2⟩ := q2
      dsimp only at hq
      have f2 := fO_tr f0 (f219_185_frC e2)
      exact fO_tr f2 (f231_185_l7_frC k hq)
set_option maxRecDepth 100000 in
theorem f231_185_frC {N : Nat} {I : tI} {J : tJ} {v : Int64} {I1 : tI} {J1 : tJ} (hq : f231_185 N I J = some (v, I1, J1)) : frO qfIC qfJC I I1 J J1 := by
  unfold f231_185 at hq
  have f0 : frO qfIC qfJC I I J J := fO_refl
  cases e1 : f231_185_l7 N N I J 0 (I 185 13) with
  | none => rw [e1] at hq; cases hq
  | some Y =>
  obtain ⟨y1_1, y1_3, I1, J1⟩ := Y
  rw [e1] at hq
  dsimp only at hq
  have f1 := fO_tr f0 (f231_185_l7_frC N e1)
  cases hq
  exact f1
set_option maxRecDepth 100000 in
theorem f232_185_l2_frC {N : Nat} : ∀ (k : Nat) {I : tI} {J : tJ} {x1 : Int32} {x2 : Int32} {x3 : Int32} {kx : Nat} {y1 : Int32} {y2 : Int32} {y3 : Int32} {I1 : tI} {J1 : tJ}, f232_185_l2 N k I J x1 x2 x3 = some (kx, y1, y2, y3, I1, J1) → frO qfIC qfJC I I1 J J1
  | 0, _, _, _, _, _, _, _, _, _, _, _, hq => by cases hq
  | k + 1, I, J, x1, x2, x3, kx, y1, y2, y3, I1, J1, hq => by
    unfold f232_185_l2 at hq
    have f0 : frO qfIC qfJC I I J J := fO_refl
    rcases bsp hq with ⟨-, hq⟩ | ⟨-, hq⟩
    ·
      cases hq
      exact f0
    ·
      obtain ⟨v2, I2, J2, e2, hq⟩ := obL hq
      have f2 := fO_tr f0 (f231_185_frC e2)
      rcases bsp hq with ⟨-, hq⟩ | ⟨-, hq⟩
      ·
        exact fO_tr f2 (f232_185_l2_frC k hq)
      ·
        cases hq
        exact f2
set_option maxRecDepth 100000 in
theorem f232_185_frC {N : Nat} {I : tI} {J : tJ} {a0 : Int32} {a1 : Int32} {v : Int32} {I1 : tI} {J1 : tJ} (hq : f232_185 N I J a0 a1 = some (v, I1, J1)) : frO qfIC qfJC I I1 J J1 := by
  unfold f232_185 at hq
  have f0 : frO qfIC qfJC I I J J := fO_refl
  cases e1 : f232_185_l2 N N I J a0 a1 0 with
  | none => rw [e1] at hq; cases hq
  | some Y =>
  obtain ⟨k1, y1_1, y1_2, y1_3, I1, J1⟩ := Y
  rw [e1] at hq
  dsimp only at hq
  have f1 := fO_tr f0 (f232_185_l2_frC N e1)
  rcases bsp hq with ⟨-, hq⟩ | ⟨-, hq⟩
  ·
    cases hq
    exact f1
  ·
    cases hq
    exact f1
def qfID : Nat → Nat → Bool := fun _ _ => true
def qfJD : Nat → Nat → Bool := fun o k => Nat.beq o 187 && Nat.ble 60 k
set_option maxRecDepth 100000 in
theorem f219_185_frD {I : tI} {J : tJ} {a0 : Int32} {v : Int32} {I1 : tI} {J1 : tJ} (hq : f219_185 I J a0 = (v, I1, J1)) : frO qfID qfJD I I1 J J1 := by
  unfold f219_185 at hq
  have f0 : frO qfID qfJD I I J J := fO_refl
  rcases bsp hq with ⟨-, hq⟩ | ⟨-, hq⟩
  ·
    cases hq
    exact f0
  ·
    cases hq
    exact f0
set_option maxRecDepth 100000 in
theorem f222_185_l0_frD {N : Nat} : ∀ (k : Nat) {I : tI} {J : tJ} {I1 : tI} {J1 : tJ}, f222_185_l0 N k I J = some (I1, J1) → frO qfID qfJD I I1 J J1
  | 0, _, _, _, _, hq => by cases hq
  | k + 1, I, J, I1, J1, hq => by
    unfold f222_185_l0 at hq
    have f0 : frO qfID qfJD I I J J := fO_refl
    generalize e1 : f219_185 I J (I 185 14) = q1 at hq
    obtain ⟨v1, I1, J1⟩ := q1
    dsimp only at hq
    have f1 := fO_tr f0 (f219_185_frD e1)
    rcases bsp hq with ⟨-, hq⟩ | ⟨-, hq⟩
    ·
      exact fO_tr (fO_I f1 rfl) (f222_185_l0_frD k hq)
    ·
      generalize e3 : f219_185 I1 J1 (I1 185 14) = q3 at hq
      obtain ⟨v3, I3, J3⟩ := q3
      dsimp only at hq
      have f3 := fO_tr f1 (f219_185_frD e3)
      rcases bsp hq with ⟨-, hq⟩ | ⟨-, hq⟩
      ·
        cases hq
        exact f3
      ·
        exact fO_tr (fO_I f3 rfl) (f222_185_l0_frD k hq)
set_option maxRecDepth 100000 in
theorem f220_frD {I : tI} {J : tJ} {a0 : Int32} {v : Int32} {I1 : tI} {J1 : tJ} (hq : f220 I J a0 = (v, I1, J1)) : frO qfID qfJD I I1 J J1 := by
  unfold f220 at hq
  have f0 : frO qfID qfJD I I J J := fO_refl
  rcases bsp hq with ⟨-, hq⟩ | ⟨-, hq⟩
  ·
    cases hq
    exact f0
  ·
    rcases bsp hq with ⟨-, hq⟩ | ⟨-, hq⟩
    ·
      cases hq
      exact f0
    ·
      cases hq
      exact f0
set_option maxRecDepth 100000 in
theorem f221_frD {I : tI} {J : tJ} {a0 : Int32} {v : Int32} {I1 : tI} {J1 : tJ} (hq : f221 I J a0 = (v, I1, J1)) : frO qfID qfJD I I1 J J1 := by
  unfold f221 at hq
  have f0 : frO qfID qfJD I I J J := fO_refl
  rcases bsp hq with ⟨-, hq⟩ | ⟨-, hq⟩
  ·
    cases hq
    exact f0
  ·
    rcases bsp hq with ⟨-, hq⟩ | ⟨-, hq⟩
    ·
      cases hq
      exact f0
    ·
      cases hq
      exact f0
set_option maxRecDepth 100000 in
theorem f222_185_l128_frD {N : Nat} : ∀ (k : Nat) {I : tI} {J : tJ} {I1 : tI} {J1 : tJ}, f222_185_l128 N k I J = some (I1, J1) → frO qfID qfJD I I1 J J1
  | 0, _, _, _, _, hq => by cases hq
  | k + 1, I, J, I1, J1, hq => by
    unfold f222_185_l128 at hq
    have f0 : frO qfID qfJD I I J J := fO_refl
    generalize e12 : f219_185 I J (I 185 14) = q12 at hq
    obtain ⟨v12, I12, J12⟩ := q12
    dsimp only at hq
    have f12 := fO_tr f0 (f219_185_frD e12)
    generalize e13 : f221 I12 J12 v12 = q13 at hq
    obtain ⟨v13, I13, J13⟩ := q13
    dsimp only at hq
    have f13 := fO_tr f12 (f221_frD e13)
    rcases bsp hq with ⟨-, hq⟩ | ⟨-, hq⟩
    ·
      cases hq
      exact f13
    ·
      generalize e15 : f219_185 I13 J13 (I13 185 14) = q15 at hq
      obtain ⟨v15, I15, J15⟩ := q15
      dsimp only at hq
      have f15 := fO_tr f13 (f219_185_frD e15)
      exact fO_tr (fO_I (fO_I f15 rfl) rfl) (f222_185_l128_frD k hq)
set_option maxRecDepth 100000 in
theorem f222_185_l81_frD {N : Nat} : ∀ (k : Nat) {I : tI} {J : tJ} {I1 : tI} {J1 : tJ}, f222_185_l81 N k I J = some (I1, J1) → frO qfID qfJD I I1 J J1
  | 0, _, _, _, _, hq => by cases hq
  | k + 1, I, J, I1, J1, hq => by
    unfold f222_185_l81 at hq
    have f0 : frO qfID qfJD I I J J := fO_refl
    generalize e14 : f219_185 I J (I 185 14) = q14 at hq
    obtain ⟨v14, I14, J14⟩ := q14
    dsimp only at hq
    have f14 := fO_tr f0 (f219_185_frD e14)
    generalize e15 : f220 I14 J14 v14 = q15 at hq
    obtain ⟨v15, I15, J15⟩ := q15
    dsimp only at hq
    have f15 := fO_tr f14 (f220_frD e15)
    rcases bsp hq with ⟨-, hq⟩ | ⟨-, hq⟩
    ·
      cases hq
      exact f15
    ·
      exact fO_tr (fO_I f15 rfl) (f222_185_l81_frD k hq)
set_option maxRecDepth 100000 in
theorem f222_185_frD {N : Nat} {I : tI} {J : tJ} {v : Unit} {I1 : tI} {J1 : tJ} (hq : f222_185 N I J = some (v, I1, J1)) : frO qfID qfJD I I1 J J1 := by
  unfold f222_185 at hq
  have f0 : frO qfID qfJD I I J J := fO_refl
  cases e1 : f222_185_l0 N N I J with
  | none => rw [e1] at hq; cases hq
  | some Y =>
  obtain ⟨I1, J1⟩ := Y
  rw [e1] at hq
  dsimp only at hq
  have f1 := fO_tr f0 (f222_185_l0_frD N e1)
  generalize e2 : f219_185 (tup I1 185 13 (I1 185 14)) J1 (I1 185 14) = q2 at hq
  obtain ⟨v2, I2, J2⟩ := q2
  dsimp only at hq
  have f2 := fO_tr (fO_I f1 rfl) (f219_185_frD e2)
  rcases bsp hq with ⟨-, hq⟩ | ⟨-, hq⟩
  ·
    generalize e4 : f220 (tup I2 185 15 v2) J2 v2 = q4 at hq
    obtain ⟨v4, I4, J4⟩ := q4
    dsimp only at hq
    have f4 := fO_tr (fO_I f2 rfl) (f220_frD e4)
    rcases bsp hq with ⟨-, hq⟩ | ⟨-, hq⟩
    ·
      generalize e6 : f221 I4 J4 v2 = q6 at hq
      obtain ⟨v6, I6, J6⟩ := q6
      dsimp only at hq
      have f6 := fO_tr f4 (f221_frD e6)
      rcases bsp hq with ⟨-, hq⟩ | ⟨-, hq⟩
      ·
        rcases bsp hq with ⟨-, hq⟩ | ⟨-, hq⟩
        ·
          cases hq
          exact (fO_I (fO_I f6 rfl) rfl)
        ·
          rcases bsp hq with ⟨-, hq⟩ | ⟨-, hq⟩
          ·
            cases hq
            exact (fO_I (fO_I f6 rfl) rfl)
          ·
            rcases bsp hq with ⟨-, hq⟩ | ⟨-, hq⟩
            ·
              cases hq
              exact (fO_I (fO_I f6 rfl) rfl)
            ·
              rcases bsp hq with ⟨-, hq⟩ | ⟨-, hq⟩
              ·
                cases hq
                exact (fO_I (fO_I f6 rfl) rfl)
              ·
                cases hq
                exact (fO_I (fO_I f6 rfl) rfl)
      ·
        cases e12 : f222_185_l128 N N (tup I6 185 15 0) J6 with
        | none => rw [e12] at hq; cases hq
        | some Y =>
        obtain ⟨I12, J12⟩ := Y
        rw [e12] at hq
        dsimp only at hq
        have f12 := fO_tr (fO_I f6 rfl) (f222_185_l128_frD N e12)
        rcases bsp hq with ⟨-, hq⟩ | ⟨-, hq⟩
        ·
          cases hq
          exact (fO_I f12 rfl)
        ·
          cases hq
          exact (fO_I f12 rfl)
    ·
      cases e14 : f222_185_l81 N N I4 J4 with
      | none => rw [e14] at hq; cases hq
      | some Y =>
      obtain ⟨I14, J14⟩ := Y
      rw [e14] at hq
      dsimp only at hq
      have f14 := fO_tr f4 (f222_185_l81_frD N e14)
      cases hq
      exact (fO_I f14 rfl)
  ·
    cases hq
    exact (fO_I (fO_I f2 rfl) rfl)
set_option maxRecDepth 100000 in
theorem f224_185_1002_l25_frD {N : Nat} : ∀ (k : Nat) {I : tI} {J : tJ} {x2 : Int32} {x3 : Int32} {x4 : Int32} {y2 : Int32} {y3 : Int32} {y4 : Int32} {I1 : tI} {J1 : tJ}, f224_185_1002_l25 N k I J x2 x3 x4 = some (y2, y3, y4, I1, J1) → frO qfID qfJD I I1 J J1
  | 0, _, _, _, _, _, _, _, _, _, _, hq => by cases hq
  | k + 1, I, J, x2, x3, x4, y2, y3, y4, I1, J1, hq => by
    unfold f224_185_1002_l25 at hq
    have f0 : frO qfID qfJD I I J J := fO_refl
    rcases bsp hq with ⟨-, hq⟩ | ⟨-, hq⟩
    ·
      cases hq
      exact f0
    ·
      exact fO_tr f0 (f224_185_1002_l25_frD k hq)
set_option maxRecDepth 100000 in
theorem f224_185_1002_l68_frD {N : Nat} : ∀ (k : Nat) {I : tI} {J : tJ} {x2 : Int32} {x3 : Int32} {x4 : Int32} {x5 : Int32} {x6 : Int32} {y2 : Int32} {y3 : Int32} {y4 : Int32} {y5 : Int32} {y6 : Int32} {I1 : tI} {J1 : tJ}, f224_185_1002_l68 N k I J x2 x3 x4 x5 x6 = some (y2, y3, y4, y5, y6, I1, J1) → frO qfID qfJD I I1 J J1
  | 0, _, _, _, _, _, _, _, _, _, _, _, _, _, _, hq => by cases hq
  | k + 1, I, J, x2, x3, x4, x5, x6, y2, y3, y4, y5, y6, I1, J1, hq => by
    unfold f224_185_1002_l68 at hq
    have f0 : frO qfID qfJD I I J J := fO_refl
    rcases bsp hq with ⟨-, hq⟩ | ⟨-, hq⟩
    ·
      cases hq
      exact f0
    ·
      rcases bsp hq with ⟨-, hq⟩ | ⟨-, hq⟩
      ·
        cases hq
        exact f0
      ·
        generalize e7 : f219_185 I J (((I 185 13) + x6) - x3) = q7 at hq
        obtain ⟨v7, I7, J7⟩ := q7
        dsimp only at hq
        have f7 := fO_tr f0 (f219_185_frD e7)
        rcases bsp hq with ⟨-, hq⟩ | ⟨-, hq⟩
        ·
          exact fO_tr f7 (f224_185_1002_l68_frD k hq)
        ·
          exact fO_tr f7 (f224_185_1002_l68_frD k hq)
set_option maxRecDepth 100000 in
theorem f224_185_1002_l14_frD {N : Nat} : ∀ (k : Nat) {I : tI} {J : tJ} {x2 : Int32} {x3 : Int32} {kx : Nat} {y2 : Int32} {y3 : Int32} {I1 : tI} {J1 : tJ}, f224_185_1002_l14 N k I J x2 x3 = some (kx, y2, y3, I1, J1) → frO qfID qfJD I I1 J J1
  | 0, _, _, _, _, _, _, _, _, _, hq => by cases hq
  | k + 1, I, J, x2, x3, kx, y2, y3, I1, J1, hq => by
    unfold f224_185_1002_l14 at hq
    have f0 : frO qfID qfJD I I J J := fO_refl
    rcases bsp hq with ⟨-, hq⟩ | ⟨-, hq⟩
    ·
      cases hq
      exact f0
    ·
      cases e3 : f224_185_1002_l25 N N I J x2 x3 x3 with
      | none => rw [e3] at hq; cases hq
      | some Y =>
      obtain ⟨y3_2, y3_3, y3_4, I3, J3⟩ := Y
      rw [e3] at hq
      dsimp only at hq
      have f3 := fO_tr f0 (f224_185_1002_l25_frD N e3)
      rcases bsp hq with ⟨-, hq⟩ | ⟨-, hq⟩
      ·
        cases e5 : f224_185_1002_l68 N N I3 J3 y3_2 y3_3 y3_4 0 y3_3 with
        | none => rw [e5] at hq; cases hq
        | some Y =>
        obtain ⟨y5_2, y5_3, y5_4, y5_5, y5_6, I5, J5⟩ := Y
        rw [e5] at hq
        dsimp only at hq
        have f5 := fO_tr f3 (f224_185_1002_l68_frD N e5)
        rcases bsp hq with ⟨-, hq⟩ | ⟨-, hq⟩
        ·
          exact fO_tr f5 (f224_185_1002_l14_frD k hq)
        ·
          cases hq
          exact f5
      ·
        cases e7 : f224_185_1002_l68 N N I3 J3 y3_2 y3_3 y3_4 1 y3_3 with
        | none => rw [e7] at hq; cases hq
        | some Y =>
        obtain ⟨y7_2, y7_3, y7_4, y7_5, y7_6, I7, J7⟩ := Y
        rw [e7] at hq
        dsimp only at hq
        have f7 := fO_tr f3 (f224_185_1002_l68_frD N e7)
        rcases bsp hq with ⟨-, hq⟩ | ⟨-, hq⟩
        ·
          exact fO_tr f7 (f224_185_1002_l14_frD k hq)
        ·
          cases hq
          exact f7
set_option maxRecDepth 100000 in
theorem f224_185_1002_frD {N : Nat} {I : tI} {J : tJ} {v : Int32} {I1 : tI} {J1 : tJ} (hq : f224_185_1002 N I J = some (v, I1, J1)) : frO qfID qfJD I I1 J J1 := by
  unfold f224_185_1002 at hq
  have f0 : frO qfID qfJD I I J J := fO_refl
  rcases bsp hq with ⟨-, hq⟩ | ⟨-, hq⟩
  ·
    cases e2 : f224_185_1002_l14 N N I J 0 1 with
    | none => rw [e2] at hq; cases hq
    | some Y =>
    obtain ⟨k2, y2_2, y2_3, I2, J2⟩ := Y
    rw [e2] at hq
    dsimp only at hq
    have f2 := fO_tr f0 (f224_185_1002_l14_frD N e2)
    rcases bsp hq with ⟨-, hq⟩ | ⟨-, hq⟩
    ·
      cases hq
      exact f2
    ·
      cases hq
      exact f2
  ·
    cases hq
    exact f0
set_option maxRecDepth 100000 in
theorem f225_185_frD {I : tI} {J : tJ} {a0 : Int32} {v : Int32} {I1 : tI} {J1 : tJ} (hq : f225_185 I J a0 = (v, I1, J1)) : frO qfID qfJD I I1 J J1 := by
  unfold f225_185 at hq
  have f0 : frO qfID qfJD I I J J := fO_refl
  rcases bsp hq with ⟨-, hq⟩ | ⟨-, hq⟩
  ·
    cases hq
    exact f0
  ·
    rcases bsp hq with ⟨-, hq⟩ | ⟨-, hq⟩
    ·
      cases hq
      exact (fO_I (fO_I f0 rfl) rfl)
    ·
      cases hq
      exact (fO_I (fO_I f0 rfl) rfl)
set_option maxRecDepth 100000 in
theorem f229_185_frD {N : Nat} {I : tI} {J : tJ} {a0 : Int32} {a1 : Int32} {a2 : Int32} {v : Int32} {I1 : tI} {J1 : tJ} (hq : f229_185 N I J a0 a1 a2 = some (v, I1, J1)) : frO qfID qfJD I I1 J J1 := by
  unfold f229_185 at hq
  have f0 : frO qfID qfJD I I J J := fO_refl
  rcases bsp hq with ⟨-, hq⟩ | ⟨-, hq⟩
  ·
    rcases bsp hq with ⟨-, hq⟩ | ⟨-, hq⟩
    ·
      generalize e3 : f225_185 I J 4 = q3 at hq
      obtain ⟨v3, I3, J3⟩ := q3
      dsimp only at hq
      have f3 := fO_tr f0 (f225_185_frD e3)
      cases hq
      exact f3
    ·
      rcases bsp hq with ⟨-, hq⟩ | ⟨-, hq⟩
      ·
        obtain ⟨_, I5, J5, e5, hq⟩ := obU hq
        have f5 := fO_tr (fO_I f0 rfl) (f222_185_frD e5)
        cases hq
        exact f5
      ·
        generalize e6 : f225_185 I J 4 = q6 at hq
        obtain ⟨v6, I6, J6⟩ := q6
        dsimp only at hq
        have f6 := fO_tr f0 (f225_185_frD e6)
        cases hq
        exact f6
  ·
    generalize e7 : f225_185 I J 2 = q7 at hq
    obtain ⟨v7, I7, J7⟩ := q7
    dsimp only at hq
    have f7 := fO_tr f0 (f225_185_frD e7)
    cases hq
    exact f7
set_option maxRecDepth 100000 in
theorem f223_185_frD {I : tI} {J : tJ} {a0 : Int32} {v : Int32} {I1 : tI} {J1 : tJ} (hq : f223_185 I J a0 = (v, I1, J1)) : frO qfID qfJD I I1 J J1 := by
  unfold f223_185 at hq
  have f0 : frO qfID qfJD I I J J := fO_refl
  rcases bsp hq with ⟨-, hq⟩ | ⟨-, hq⟩
  ·
    cases hq
    exact f0
  ·
    rcases bsp hq with ⟨-, hq⟩ | ⟨-, hq⟩
    ·
      cases hq
      exact f0
    ·
      cases hq
      exact f0
set_option maxRecDepth 100000 in
theorem f227_185_frD {N : Nat} {I : tI} {J : tJ} {a0 : Int32} {v : Int32} {I1 : tI} {J1 : tJ} (hq : f227_185 N I J a0 = some (v, I1, J1)) : frO qfID qfJD I I1 J J1 := by
  unfold f227_185 at hq
  have f0 : frO qfID qfJD I I J J := fO_refl
  generalize e1 : f223_185 I J a0 = q1 at hq
  obtain ⟨v1, I1, J1⟩ := q1
  dsimp only at hq
  have f1 := fO_tr f0 (f223_185_frD e1)
  rcases bsp hq with ⟨-, hq⟩ | ⟨-, hq⟩
  ·
    obtain ⟨_, I3, J3, e3, hq⟩ := obU hq
    have f3 := fO_tr f1 (f222_185_frD e3)
    cases hq
    exact f3
  ·
    generalize e4 : f225_185 I1 J1 2 = q4 at hq
    obtain ⟨v4, I4, J4⟩ := q4
    dsimp only at hq
    have f4 := fO_tr f1 (f225_185_frD e4)
    cases hq
    exact f4
set_option maxRecDepth 100000 in
theorem f243_185_j278_frD {N : Nat} {I : tI} {J : tJ} {x2 : Int32} {v : Int32} {I1 : tI} {J1 : tJ} (hq : f243_185_j278 N I J x2 = some (v, I1, J1)) : frO qfID qfJD I I1 J J1 := by
  unfold f243_185_j278 at hq
  have f0 : frO qfID qfJD I I J J := fO_refl
  rcases bsp hq with ⟨-, hq⟩ | ⟨-, hq⟩
  ·
    cases hq
    exact f0
  ·
    obtain ⟨v13, I13, J13, e13, hq⟩ := obI hq
    have f13 := fO_tr f0 (f227_185_frD e13)
    rcases bsp hq with ⟨-, hq⟩ | ⟨-, hq⟩
    ·
      cases hq
      exact f13
    ·
      cases hq
      exact f13
set_option maxRecDepth 100000 in
theorem f243_185_j165_frD {N : Nat} {I : tI} {J : tJ} {s0 : Int32} {v : Int32} {I1 : tI} {J1 : tJ} (hq : f243_185_j165 N I J s0 = some (v, I1, J1)) : frO qfID qfJD I I1 J J1 := by
  unfold f243_185_j165 at hq
  have f0 : frO qfID qfJD I I J J := fO_refl
  exact fO_tr f0 (f243_185_j278_frD hq)
set_option maxRecDepth 100000 in
theorem f243_185_j164_frD {N : Nat} {I : tI} {J : tJ} {v : Int32} {I1 : tI} {J1 : tJ} (hq : f243_185_j164 N I J = some (v, I1, J1)) : frO qfID qfJD I I1 J J1 := by
  unfold f243_185_j164 at hq
  have f0 : frO qfID qfJD I I J J := fO_refl
  exact fO_tr f0 (f243_185_j165_frD hq)
set_option maxRecDepth 100000 in
theorem f228_185_1002_frD {N : Nat} {I : tI} {J : tJ} {a0 : Int32} {v : Int32} {I1 : tI} {J1 : tJ} (hq : f228_185_1002 N I J a0 = some (v, I1, J1)) : frO qfID qfJD I I1 J J1 := by
  unfold f228_185_1002 at hq
  have f0 : frO qfID qfJD I I J J := fO_refl
  obtain ⟨v1, I1, J1, e1, hq⟩ := obI hq
  have f1 := fO_tr f0 (f224_185_1002_frD e1)
  rcases bsp hq with ⟨-, hq⟩ | ⟨-, hq⟩
  ·
    obtain ⟨_, I3, J3, e3, hq⟩ := obU hq
    have f3 := fO_tr f1 (f222_185_frD e3)
    cases hq
    exact f3
  ·
    generalize e4 : f225_185 I1 J1 2 = q4 at hq
    obtain ⟨v4, I4, J4⟩ := q4
    dsimp only at hq
    have f4 := fO_tr f1 (f225_185_frD e4)
    cases hq
    exact f4
set_option maxRecDepth 100000 in
theorem f243_185_j215_frD {N : Nat} {I : tI} {J : tJ} {s0 : Int32} {v : Int32} {I1 : tI} {J1 : tJ} (hq : f243_185_j215 N I J s0 = some (v, I1, J1)) : frO qfID qfJD I I1 J J1 := by
  unfold f243_185_j215 at hq
  have f0 : frO qfID qfJD I I J J := fO_refl
  exact fO_tr f0 (f243_185_j278_frD hq)
set_option maxRecDepth 100000 in
theorem f243_185_j214_frD {N : Nat} {I : tI} {J : tJ} {v : Int32} {I1 : tI} {J1 : tJ} (hq : f243_185_j214 N I J = some (v, I1, J1)) : frO qfID qfJD I I1 J J1 := by
  unfold f243_185_j214 at hq
  have f0 : frO qfID qfJD I I J J := fO_refl
  exact fO_tr f0 (f243_185_j215_frD hq)
set_option maxRecDepth 100000 in
theorem f238_185_j86_frD {N : Nat} {I : tI} {J : tJ} {x1 : Int32} {x3 : Int32} {v : Int32} {I1 : tI} {J1 : tJ} (hq : f238_185_j86 N I J x1 x3 = some (v, I1, J1)) : frO qfID qfJD I I1 J J1 := by
  unfold f238_185_j86 at hq
  have f0 : frO qfID qfJD I I J J := fO_refl
  obtain ⟨v4, I4, J4, e4, hq⟩ := obI hq
  have f4 := fO_tr f0 (f229_185_frD e4)
  rcases bsp hq with ⟨-, hq⟩ | ⟨-, hq⟩
  ·
    cases hq
    exact (fO_I f4 rfl)
  ·
    cases hq
    exact f4
set_option maxRecDepth 100000 in
theorem f239_185_l22_frD {N : Nat} : ∀ (k : Nat) {I : tI} {J : tJ} {x1 : Int32} {x2 : Int32} {x3 : Int32} {y1 : Int32} {y2 : Int32} {y3 : Int32} {I1 : tI} {J1 : tJ}, f239_185_l22 N k I J x1 x2 x3 = some (y1, y2, y3, I1, J1) → frO qfID qfJD I I1 J J1
  | 0, _, _, _, _, _, _, _, _, _, _, hq => by cases hq
  | k + 1, I, J, x1, x2, x3, y1, y2, y3, I1, J1, hq => by
    unfold f239_185_l22 at hq
    have f0 : frO qfID qfJD I I J J := fO_refl
    rcases bsp hq with ⟨-, hq⟩ | ⟨-, hq⟩
    ·
      cases hq
      exact f0
    ·
      rcases bsp hq with ⟨-, hq⟩ | ⟨-, hq⟩
      ·
        exact fO_tr f0 (f239_185_l22_frD k hq)
      ·
        rcases bsp hq with ⟨-, hq⟩ | ⟨-, hq⟩
        ·
          exact fO_tr f0 (f239_185_l22_frD k hq)
        ·
          exact fO_tr f0 (f239_185_l22_frD k hq)
set_option maxRecDepth 100000 in
theorem f239_185_j19_frD {N : Nat} {I : tI} {J : tJ} {x1 : Int32} {s0 : Int32} {v : Int32} {I1 : tI} {J1 : tJ} (hq : f239_185_j19 N I J x1 s0 = some (v, I1, J1)) : frO qfID qfJD I I1 J J1 := by
  unfold f239_185_j19 at hq
  have f0 : frO qfID qfJD I I J J := fO_refl
  cases e2 : f239_185_l22 N N I J x1 s0 0 with
  | none => rw [e2] at hq; cases hq
  | some Y =>
  obtain ⟨y2_1, y2_2, y2_3, I2, J2⟩ := Y
  rw [e2] at hq
  dsimp only at hq
  have f2 := fO_tr f0 (f239_185_l22_frD N e2)
  cases hq
  exact f2
set_option maxRecDepth 100000 in
theorem f239_185_frD {N : Nat} {I : tI} {J : tJ} {a0 : Int32} {v : Int32} {I1 : tI} {J1 : tJ} (hq : f239_185 N I J a0 = some (v, I1, J1)) : frO qfID qfJD I I1 J J1 := by
  unfold f239_185 at hq
  have f0 : frO qfID qfJD I I J J := fO_refl
  rcases bsp hq with ⟨-, hq⟩ | ⟨-, hq⟩
  ·
    exact fO_tr f0 (f239_185_j19_frD hq)
  ·
    exact fO_tr f0 (f239_185_j19_frD hq)
set_option maxRecDepth 100000 in
theorem f238_185_frD {N : Nat} {I : tI} {J : tJ} {a0 : Int32} {a1 : Int32} {v : Int32} {I1 : tI} {J1 : tJ} (hq : f238_185 N I J a0 a1 = some (v, I1, J1)) : frO qfID qfJD I I1 J J1 := by
  unfold f238_185 at hq
  have f0 : frO qfID qfJD I I J J := fO_refl
  obtain ⟨v1, I1, J1, e1, hq⟩ := obI hq
  have f1 := fO_tr f0 (f229_185_frD e1)
  rcases bsp hq with ⟨-, hq⟩ | ⟨-, hq⟩
  ·
    rcases bsp hq with ⟨-, hq⟩ | ⟨-, hq⟩
    ·
      exact fO_tr f1 (f238_185_j86_frD hq)
    ·
      rcases bsp hq with ⟨-, hq⟩ | ⟨-, hq⟩
      ·
        exact fO_tr f1 (f238_185_j86_frD hq)
      ·
        rcases bsp hq with ⟨-, hq⟩ | ⟨-, hq⟩
        ·
          exact fO_tr f1 (f238_185_j86_frD hq)
        ·
          rcases bsp hq with ⟨-, hq⟩ | ⟨-, hq⟩
          ·
            exact fO_tr f1 (f238_185_j86_frD hq)
          ·
            obtain ⟨v7, I7, J7, e7, hq⟩ := obI hq
            have f7 := fO_tr f1 (f239_185_frD e7)
            rcases bsp hq with ⟨-, hq⟩ | ⟨-, hq⟩
            ·
              exact fO_tr f7 (f238_185_j86_frD hq)
            ·
              generalize e9 : f225_185 I7 J7 5 = q9 at hq
              obtain ⟨v9, I9, J9⟩ := q9
              dsimp only at hq
              have f9 := fO_tr f7 (f225_185_frD e9)
              cases hq
              exact f9
  ·
    cases hq
    exact f1
set_option maxRecDepth 100000 in
theorem f230_185_1002_frD {N : Nat} {I : tI} {J : tJ} {v : Int32} {I1 : tI} {J1 : tJ} (hq : f230_185_1002 N I J = some (v, I1, J1)) : frO qfID qfJD I I1 J J1 := by
  unfold f230_185_1002 at hq
  have f0 : frO qfID qfJD I I J J := fO_refl
  rcases bsp hq with ⟨-, hq⟩ | ⟨-, hq⟩
  ·
    cases hq
    exact f0
  ·
    rcases bsp hq with ⟨-, hq⟩ | ⟨-, hq⟩
    ·
      cases hq
      exact f0
    ·
      obtain ⟨v3, I3, J3, e3, hq⟩ := obI hq
      have f3 := fO_tr f0 (f224_185_1002_frD e3)
      rcases bsp hq with ⟨-, hq⟩ | ⟨-, hq⟩
      ·
        cases hq
        exact f3
      ·
        cases hq
        exact f3
set_option maxRecDepth 100000 in
theorem f231_185_l7_frD {N : Nat} : ∀ (k : Nat) {I : tI} {J : tJ} {x1 : Int64} {x3 : Int32} {y1 : Int64} {y3 : Int32} {I1 : tI} {J1 : tJ}, f231_185_l7 N k I J x1 x3 = some (y1, y3, I1, J1) → frO qfID qfJD I I1 J J1
  | 0, _, _, _, _, _, _, _, _, hq => by cases hq
  | k + 1, I, J, x1, x3, y1, y3, I1, J1, hq => by
    unfold f231_185_l7 at hq
    have f0 : frO qfID qfJD I I J J := fO_refl
    rcases bsp hq with ⟨-, hq⟩ | ⟨-, hq⟩
    ·
      cases hq
      exact f0
    ·
      generalize e2 : f219_185 I J x3 = q2 at hq
      obtain ⟨v2, I2, J2⟩ := q2
      dsimp only at hq
      have f2 := fO_tr f0 (f219_185_frD e2)
      exact fO_tr f2 (f231_185_l7_frD k hq)
set_option maxRecDepth 100000 in
theorem f231_185_frD {N : Nat} {I : tI} {J : tJ} {v : Int64} {I1 : tI} {J1 : tJ} (hq : f231_185 N I J = some (v, I1, J1)) : frO qfID qfJD I I1 J J1 := by
  unfold f231_185 at hq
  have f0 : frO qfID qfJD I I J J := fO_refl
  cases e1 : f231_185_l7 N N I J 0 (I 185 13) with
  | none => rw [e1] at hq; cases hq
  | some Y =>
  obtain ⟨y1_1, y1_3, I1, J1⟩ := Y
  rw [e1] at hq
  dsimp only at hq
  have f1 := fO_tr f0 (f231_185_l7_frD N e1)
  cases hq
  exact f1
set_option maxRecDepth 100000 in
theorem f232_185_l2_frD {N : Nat} : ∀ (k : Nat) {I : tI} {J : tJ} {x1 : Int32} {x2 : Int32} {x3 : Int32} {kx : Nat} {y1 : Int32} {y2 : Int32} {y3 : Int32} {I1 : tI} {J1 : tJ}, f232_185_l2 N k I J x1 x2 x3 = some (kx, y1, y2, y3, I1, J1) → frO qfID qfJD I I1 J J1
  | 0, _, _, _, _, _, _, _, _, _, _, _, hq => by cases hq
  | k + 1, I, J, x1, x2, x3, kx, y1, y2, y3, I1, J1, hq => by
    unfold f232_185_l2 at hq
    have f0 : frO qfID qfJD I I J J := fO_refl
    rcases bsp hq with ⟨-, hq⟩ | ⟨-, hq⟩
    ·
      cases hq
      exact f0
    ·
      obtain ⟨v2, I2, J2, e2, hq⟩ := obL hq
      have f2 := fO_tr f0 (f231_185_frD e2)
      rcases bsp hq with ⟨-, hq⟩ | ⟨-, hq⟩
      ·
        exact fO_tr f2 (f232_185_l2_frD k hq)
      ·
        cases hq
        exact f2
set_option maxRecDepth 100000 in
theorem f232_185_frD {N : Nat} {I : tI} {J : tJ} {a0 : Int32} {a1 : Int32} {v : Int32} {I1 : tI} {J1 : tJ} (hq : f232_185 N I J a0 a1 = some (v, I1, J1)) : frO qfID qfJD I I1 J J1 := by
  unfold f232_185 at hq
  have f0 : frO qfID qfJD I I J J := fO_refl
  cases e1 : f232_185_l2 N N I J a0 a1 0 with
  | none => rw [e1] at hq; cases hq
  | some Y =>
  obtain ⟨k1, y1_1, y1_2, y1_3, I1, J1⟩ := Y
  rw [e1] at hq
  dsimp only at hq
  have f1 := fO_tr f0 (f232_185_l2_frD N e1)
  rcases bsp hq with ⟨-, hq⟩ | ⟨-, hq⟩
  ·
    cases hq
    exact f1
  ·
    cases hq
    exact f1
/-- so many persons, sights, buyers are told so far -/
def CNT (I : tI) : Prop := ∃ P S B, (P ≤ 5 ∧ S ≤ 6 ∧ B ≤ 4) ∧ I 186 2482 = Int32.ofNat P ∧ I 186 2483 = Int32.ofNat S ∧ I 186 2484 = Int32.ofNat B
theorem CNT_cg {I I' : tI} (h : CNT I) (h' : ∀ k, I' 186 k = I 186 k) : CNT I' := by
  obtain ⟨P, S, B, h1, h2, h3, h4⟩ := h
  exact ⟨P, S, B, h1, by rw [h']; exact h2, by rw [h']; exact h3, by rw [h']; exact h4⟩
theorem f236_185_frD {N : Nat} {I : tI} {J : tJ} {a0 a1 a2 : Int32} {v : Int32} {I1 : tI} {J1 : tJ} (hc : ∃ m, m ≤ 6 ∧ I 186 ((2480 + a0)).toNatClampNeg = Int32.ofNat m ∧ 60 ≤ ((60 + a2) + Int32.ofNat m).toNatClampNeg) (hq : f236_185 N I J a0 a1 a2 = some (v, I1, J1)) : frO qfID qfJD I I1 J J1 := by
  obtain ⟨m, hm, he, hk⟩ := hc
  unfold f236_185 at hq
  have f0 : frO qfID qfJD I I J J := fO_refl
  have toD : ∀ {I I' : tI} {J J' : tJ}, frO qfIC qfJC I I' J J' → frO qfID qfJD I I' J J' := fun h => fO_mono h (fun _ _ q => by cases q) (fun _ _ _ => rfl)
  have kI : ∀ {I I' : tI} {J J' : tJ} (k : Nat), frO qfIC qfJC I I' J J' → I' 186 k = I 186 k := fun k h => h.1 186 k rfl
  rcases bsp hq with ⟨-, hq⟩ | ⟨-, hq⟩
  · obtain ⟨_, I2, J2, e2, hq⟩ := obU hq
    have g2 := f222_185_frC e2
    obtain ⟨v3, I3, J3, e3, hq⟩ := obI hq
    have g3 := fO_tr g2 (f230_185_1002_frC e3)
    rcases bsp hq with ⟨-, hq⟩ | ⟨-, hq⟩
    · obtain ⟨v5, I5, J5, e5, hq⟩ := obI hq
      have g5 := fO_tr g3 (f232_185_frC e5)
      rcases bsp hq with ⟨-, hq⟩ | ⟨-, hq⟩
      · generalize e7 : f225_185 I5 J5 3 = q7 at hq
        obtain ⟨v7, I7, J7⟩ := q7
        dsimp only at hq
        cases hq
        exact toD (fO_tr g5 (f225_185_frC e7))
      · obtain ⟨v8, I8, J8, e8, hq⟩ := obI hq
        have g8 := fO_tr g5 (f232_185_frC e8)
        rcases bsp hq with ⟨-, hq⟩ | ⟨-, hq⟩
        · generalize e10 : f225_185 I8 J8 3 = q10 at hq
          obtain ⟨v10, I10, J10⟩ := q10
          dsimp only at hq
          cases hq
          exact toD (fO_tr g8 (f225_185_frC e10))
        · obtain ⟨v11, I11, J11, e11, hq⟩ := obI hq
          have g11 := fO_tr g8 (f232_185_frC e11)
          rcases bsp hq with ⟨-, hq⟩ | ⟨-, hq⟩
          · obtain ⟨v13, I13, J13, e13, hq⟩ := obL hq
            have g13 := fO_tr g11 (f231_185_frC e13)
            obtain ⟨_, I14, J14, e14, hq⟩ := obU hq
            cases hq
            rw [kI _ g11, he] at e14
            refine fO_tr (toD g13) (fO_tr (fO_J fO_refl ?_) (toD (f222_185_frC e14)))
            show (Nat.beq 187 187 && Nat.ble 60 _) = true
            rw [Nat.ble_eq_true_of_le hk]
            rfl
          · generalize e15 : f225_185 I11 J11 3 = q15 at hq
            obtain ⟨v15, I15, J15⟩ := q15
            dsimp only at hq
            cases hq
            exact toD (fO_tr g11 (f225_185_frC e15))
    · generalize e16 : f225_185 I3 J3 2 = q16 at hq
      obtain ⟨v16, I16, J16⟩ := q16
      dsimp only at hq
      cases hq
      exact toD (fO_tr g3 (f225_185_frC e16))
  · generalize e17 : f225_185 I J 6 = q17 at hq
    obtain ⟨v17, I17, J17⟩ := q17
    dsimp only at hq
    cases hq
    exact toD (f225_185_frC e17)
theorem CNT_2 {I : tI} (h : CNT I) : ∃ m, m ≤ 6 ∧ I 186 (((2480 : Int32) + 2)).toNatClampNeg = Int32.ofNat m ∧ 60 ≤ (((60 : Int32) + 0) + Int32.ofNat m).toNatClampNeg := by
  obtain ⟨P, S, B, ⟨h1, h2, h3⟩, h4, h5, h6⟩ := h
  refine ⟨P, by omega, h4, ?_⟩
  rcases (by omega : P = 0 ∨ P = 1 ∨ P = 2 ∨ P = 3 ∨ P = 4 ∨ P = 5) with rfl | rfl | rfl | rfl | rfl | rfl <;> decide
theorem CNT_3 {I : tI} (h : CNT I) : ∃ m, m ≤ 6 ∧ I 186 (((2480 : Int32) + 3)).toNatClampNeg = Int32.ofNat m ∧ 60 ≤ (((60 : Int32) + 5) + Int32.ofNat m).toNatClampNeg := by
  obtain ⟨P, S, B, ⟨h1, h2, h3⟩, h4, h5, h6⟩ := h
  refine ⟨S, by omega, h5, ?_⟩
  rcases (by omega : S = 0 ∨ S = 1 ∨ S = 2 ∨ S = 3 ∨ S = 4 ∨ S = 5 ∨ S = 6) with rfl | rfl | rfl | rfl | rfl | rfl | rfl <;> decide
theorem CNT_4 {I : tI} (h : CNT I) : ∃ m, m ≤ 6 ∧ I 186 (((2480 : Int32) + 4)).toNatClampNeg = Int32.ofNat m ∧ 60 ≤ (((60 : Int32) + 11) + Int32.ofNat m).toNatClampNeg := by
  obtain ⟨P, S, B, ⟨h1, h2, h3⟩, h4, h5, h6⟩ := h
  refine ⟨B, by omega, h6, ?_⟩
  rcases (by omega : B = 0 ∨ B = 1 ∨ B = 2 ∨ B = 3 ∨ B = 4) with rfl | rfl | rfl | rfl | rfl <;> decide
set_option maxRecDepth 100000 in
theorem f235_185_frD {N : Nat} {I : tI} {J : tJ} {a0 : Int32} {v : Int32} {I1 : tI} {J1 : tJ} (hq : f235_185 N I J a0 = some (v, I1, J1)) : frO qfID qfJD I I1 J J1 := by
  unfold f235_185 at hq
  have f0 : frO qfID qfJD I I J J := fO_refl
  obtain ⟨v1, I1, J1, e1, hq⟩ := obI hq
  have f1 := fO_tr f0 (f224_185_1002_frD e1)
  rcases bsp hq with ⟨-, hq⟩ | ⟨-, hq⟩
  ·
    obtain ⟨_, I3, J3, e3, hq⟩ := obU hq
    have f3 := fO_tr f1 (f222_185_frD e3)
    cases hq
    exact f3
  ·
    cases hq
    exact f1
set_option maxRecDepth 100000 in
theorem f240_185_l140_frD {N : Nat} : ∀ (k : Nat) {I : tI} {J : tJ} {x1 : Int32} {kx : Nat} {y1 : Int32} {I1 : tI} {J1 : tJ}, f240_185_l140 N k I J x1 = some (kx, y1, I1, J1) → frO qfID qfJD I I1 J J1
  | 0, _, _, _, _, _, _, _, hq => by cases hq
  | k + 1, I, J, x1, kx, y1, I1, J1, hq => by
    unfold f240_185_l140 at hq
    have f0 : frO qfID qfJD I I J J := fO_refl
    obtain ⟨v18, I18, J18, e18, hq⟩ := obI hq
    have f18 := fO_tr f0 (f224_185_1002_frD e18)
    rcases bsp hq with ⟨-, hq⟩ | ⟨-, hq⟩
    ·
      cases hq
      exact f18
    ·
      obtain ⟨v20, I20, J20, e20, hq⟩ := obI hq
      have f20 := fO_tr f18 (f224_185_1002_frD e20)
      rcases bsp hq with ⟨-, hq⟩ | ⟨-, hq⟩
      ·
        cases hq
        exact f20
      ·
        rcases bsp hq with ⟨-, hq⟩ | ⟨-, hq⟩
        ·
          obtain ⟨v23, I23, J23, e23, hq⟩ := obI hq
          have f23 := fO_tr f20 (f224_185_1002_frD e23)
          obtain ⟨_, I24, J24, e24, hq⟩ := obU hq
          have f24 := fO_tr (fO_I (fO_I f23 rfl) rfl) (f222_185_frD e24)
          exact fO_tr f24 (f240_185_l140_frD k hq)
        ·
          cases hq
          exact f20
set_option maxRecDepth 100000 in
theorem f240_185_j222_frD {N : Nat} {I : tI} {J : tJ} {x1 : Int32} {v : Int32} {I1 : tI} {J1 : tJ} (hq : f240_185_j222 N I J x1 = some (v, I1, J1)) : frO qfID qfJD I I1 J J1 := by
  unfold f240_185_j222 at hq
  have f0 : frO qfID qfJD I I J J := fO_refl
  rcases bsp hq with ⟨-, hq⟩ | ⟨-, hq⟩
  ·
    cases hq
    exact (fO_I (fO_I (fO_I f0 rfl) rfl) rfl)
  ·
    cases hq
    exact (fO_I (fO_I (fO_I f0 rfl) rfl) rfl)
set_option maxRecDepth 100000 in
theorem f240_185_j102_frD {N : Nat} {I : tI} {J : tJ} {x1 : Int32} {v : Int32} {I1 : tI} {J1 : tJ} (hq : f240_185_j102 N I J x1 = some (v, I1, J1)) : frO qfID qfJD I I1 J J1 := by
  unfold f240_185_j102 at hq
  have f0 : frO qfID qfJD I I J J := fO_refl
  obtain ⟨v11, I11, J11, e11, hq⟩ := obI hq
  have f11 := fO_tr f0 (f228_185_1002_frD e11)
  rcases bsp hq with ⟨-, hq⟩ | ⟨-, hq⟩
  ·
    obtain ⟨v13, I13, J13, e13, hq⟩ := obI hq
    have f13 := fO_tr f11 (f224_185_1002_frD e13)
    rcases bsp hq with ⟨-, hq⟩ | ⟨-, hq⟩
    ·
      generalize e15 : f225_185 I13 J13 2 = q15 at hq
      obtain ⟨v15, I15, J15⟩ := q15
      dsimp only at hq
      have f15 := fO_tr f13 (f225_185_frD e15)
      cases hq
      exact f15
    ·
      obtain ⟨v16, I16, J16, e16, hq⟩ := obI hq
      have f16 := fO_tr f13 (f224_185_1002_frD e16)
      rcases bsp hq with ⟨-, hq⟩ | ⟨-, hq⟩
      ·
        cases e18 : f240_185_l140 N N I16 J16 x1 with
        | none => rw [e18] at hq; cases hq
        | some Y =>
        obtain ⟨k18, y18_1, I18, J18⟩ := Y
        rw [e18] at hq
        dsimp only at hq
        have f18 := fO_tr f16 (f240_185_l140_frD N e18)
        rcases bsp hq with ⟨-, hq⟩ | ⟨-, hq⟩
        ·
          exact fO_tr f18 (f240_185_j222_frD hq)
        ·
          generalize e19 : f225_185 I18 J18 6 = q19 at hq
          obtain ⟨v19, I19, J19⟩ := q19
          dsimp only at hq
          have f19 := fO_tr f18 (f225_185_frD e19)
          cases hq
          exact f19
      ·
        generalize e20 : f225_185 I16 J16 2 = q20 at hq
        obtain ⟨v20, I20, J20⟩ := q20
        dsimp only at hq
        have f20 := fO_tr f16 (f225_185_frD e20)
        cases hq
        exact f20
  ·
    cases hq
    exact f11
set_option maxRecDepth 100000 in
theorem f240_185_j79_frD {N : Nat} {I : tI} {J : tJ} {x1 : Int32} {v : Int32} {I1 : tI} {J1 : tJ} (hq : f240_185_j79 N I J x1 = some (v, I1, J1)) : frO qfID qfJD I I1 J J1 := by
  unfold f240_185_j79 at hq
  have f0 : frO qfID qfJD I I J J := fO_refl
  obtain ⟨v9, I9, J9, e9, hq⟩ := obI hq
  have f9 := fO_tr f0 (f235_185_frD e9)
  rcases bsp hq with ⟨-, hq⟩ | ⟨-, hq⟩
  ·
    exact fO_tr f9 (f240_185_j102_frD hq)
  ·
    obtain ⟨v11, I11, J11, e11, hq⟩ := obI hq
    have f11 := fO_tr f9 (f229_185_frD e11)
    rcases bsp hq with ⟨-, hq⟩ | ⟨-, hq⟩
    ·
      cases hq
      exact f11
    ·
      exact fO_tr f11 (f240_185_j102_frD hq)
set_option maxRecDepth 100000 in
theorem f240_185_frD {N : Nat} {I : tI} {J : tJ} (hcn : CNT I) {v : Int32} {I1 : tI} {J1 : tJ} (hq : f240_185 N I J = some (v, I1, J1)) : frO qfID qfJD I I1 J J1 := by
  unfold f240_185 at hq
  have f0 : frO qfID qfJD I I J J := fO_refl
  obtain ⟨v1, I1, J1, e1, hq⟩ := obI hq
  have f1 := fO_tr f0 (f236_185_frD (CNT_2 hcn) e1)
  rcases bsp hq with ⟨-, hq⟩ | ⟨-, hq⟩
  ·
    cases hq
    exact f1
  ·
    obtain ⟨v3, I3, J3, e3, hq⟩ := obI hq
    have f3 := fO_tr f1 (f228_185_1002_frD e3)
    rcases bsp hq with ⟨-, hq⟩ | ⟨-, hq⟩
    ·
      cases hq
      exact f3
    ·
      obtain ⟨v5, I5, J5, e5, hq⟩ := obI hq
      have f5 := fO_tr f3 (f238_185_frD e5)
      rcases bsp hq with ⟨-, hq⟩ | ⟨-, hq⟩
      ·
        obtain ⟨v7, I7, J7, e7, hq⟩ := obI hq
        have f7 := fO_tr (fO_I f5 rfl) (f235_185_frD e7)
        rcases bsp hq with ⟨-, hq⟩ | ⟨-, hq⟩
        ·
          exact fO_tr f7 (f240_185_j79_frD hq)
        ·
          obtain ⟨v9, I9, J9, e9, hq⟩ := obI hq
          have f9 := fO_tr f7 (f229_185_frD e9)
          rcases bsp hq with ⟨-, hq⟩ | ⟨-, hq⟩
          ·
            cases hq
            exact f9
          ·
            exact fO_tr f9 (f240_185_j79_frD hq)
      ·
        cases hq
        exact f5
set_option maxRecDepth 100000 in
theorem f241_185_j176_frD {N : Nat} {I : tI} {J : tJ} {v : Int32} {I1 : tI} {J1 : tJ} (hq : f241_185_j176 N I J = some (v, I1, J1)) : frO qfID qfJD I I1 J J1 := by
  unfold f241_185_j176 at hq
  have f0 : frO qfID qfJD I I J J := fO_refl
  cases hq
  exact (fO_I f0 rfl)
set_option maxRecDepth 100000 in
theorem f237_185_frD {N : Nat} {I : tI} {J : tJ} {a0 : Int32} {v : Int32} {I1 : tI} {J1 : tJ} (hq : f237_185 N I J a0 = some (v, I1, J1)) : frO qfID qfJD I I1 J J1 := by
  unfold f237_185 at hq
  have f0 : frO qfID qfJD I I J J := fO_refl
  obtain ⟨v1, I1, J1, e1, hq⟩ := obI hq
  have f1 := fO_tr f0 (f230_185_1002_frD e1)
  rcases bsp hq with ⟨-, hq⟩ | ⟨-, hq⟩
  ·
    obtain ⟨v3, I3, J3, e3, hq⟩ := obI hq
    have f3 := fO_tr f1 (f232_185_frD e3)
    rcases bsp hq with ⟨-, hq⟩ | ⟨-, hq⟩
    ·
      obtain ⟨_, I5, J5, e5, hq⟩ := obU hq
      have f5 := fO_tr (fO_I f3 rfl) (f222_185_frD e5)
      cases hq
      exact f5
    ·
      generalize e6 : f225_185 (tup I3 186 ((a0).toNatClampNeg) v3) J3 3 = q6 at hq
      obtain ⟨v6, I6, J6⟩ := q6
      dsimp only at hq
      have f6 := fO_tr (fO_I f3 rfl) (f225_185_frD e6)
      cases hq
      exact f6
  ·
    generalize e7 : f225_185 I1 J1 2 = q7 at hq
    obtain ⟨v7, I7, J7⟩ := q7
    dsimp only at hq
    have f7 := fO_tr f1 (f225_185_frD e7)
    cases hq
    exact f7
set_option maxRecDepth 100000 in
theorem f241_185_j164_frD {N : Nat} {I : tI} {J : tJ} {x1 : Int32} {v : Int32} {I1 : tI} {J1 : tJ} (hq : f241_185_j164 N I J x1 = some (v, I1, J1)) : frO qfID qfJD I I1 J J1 := by
  unfold f241_185_j164 at hq
  have f0 : frO qfID qfJD I I J J := fO_refl
  obtain ⟨v17, I17, J17, e17, hq⟩ := obI hq
  have f17 := fO_tr f0 (f237_185_frD e17)
  rcases bsp hq with ⟨-, hq⟩ | ⟨-, hq⟩
  ·
    exact fO_tr f17 (f241_185_j176_frD hq)
  ·
    cases hq
    exact f17
set_option maxRecDepth 100000 in
theorem f241_185_frD {N : Nat} {I : tI} {J : tJ} (hcn : CNT I) {v : Int32} {I1 : tI} {J1 : tJ} (hq : f241_185 N I J = some (v, I1, J1)) : frO qfID qfJD I I1 J J1 := by
  unfold f241_185 at hq
  have f0 : frO qfID qfJD I I J J := fO_refl
  obtain ⟨v1, I1, J1, e1, hq⟩ := obI hq
  have f1 := fO_tr f0 (f236_185_frD (CNT_3 hcn) e1)
  rcases bsp hq with ⟨-, hq⟩ | ⟨-, hq⟩
  ·
    obtain ⟨v3, I3, J3, e3, hq⟩ := obI hq
    have f3 := fO_tr (fO_I f1 rfl) (f235_185_frD e3)
    rcases bsp hq with ⟨-, hq⟩ | ⟨-, hq⟩
    ·
      exact fO_tr f3 (f241_185_j176_frD hq)
    ·
      obtain ⟨v5, I5, J5, e5, hq⟩ := obI hq
      have f5 := fO_tr f3 (f228_185_1002_frD e5)
      rcases bsp hq with ⟨-, hq⟩ | ⟨-, hq⟩
      ·
        cases hq
        exact f5
      ·
        obtain ⟨v7, I7, J7, e7, hq⟩ := obI hq
        have f7 := fO_tr f5 (f237_185_frD e7)
        rcases bsp hq with ⟨-, hq⟩ | ⟨-, hq⟩
        ·
          obtain ⟨v9, I9, J9, e9, hq⟩ := obI hq
          have f9 := fO_tr f7 (f224_185_1002_frD e9)
          rcases bsp hq with ⟨-, hq⟩ | ⟨-, hq⟩
          ·
            obtain ⟨v11, I11, J11, e11, hq⟩ := obI hq
            have f11 := fO_tr (fO_I f9 rfl) (f235_185_frD e11)
            rcases bsp hq with ⟨-, hq⟩ | ⟨-, hq⟩
            ·
              obtain ⟨v13, I13, J13, e13, hq⟩ := obI hq
              have f13 := fO_tr f11 (f228_185_1002_frD e13)
              rcases bsp hq with ⟨-, hq⟩ | ⟨-, hq⟩
              ·
                obtain ⟨v15, I15, J15, e15, hq⟩ := obI hq
                have f15 := fO_tr f13 (f230_185_1002_frD e15)
                rcases bsp hq with ⟨-, hq⟩ | ⟨-, hq⟩
                ·
                  exact fO_tr f15 (f241_185_j164_frD hq)
                ·
                  obtain ⟨v17, I17, J17, e17, hq⟩ := obI hq
                  have f17 := fO_tr f15 (f232_185_frD e17)
                  rcases bsp hq with ⟨-, hq⟩ | ⟨-, hq⟩
                  ·
                    exact fO_tr f17 (f241_185_j164_frD hq)
                  ·
                    generalize e19 : f225_185 I17 J17 5 = q19 at hq
                    obtain ⟨v19, I19, J19⟩ := q19
                    dsimp only at hq
                    have f19 := fO_tr f17 (f225_185_frD e19)
                    cases hq
                    exact f19
              ·
                cases hq
                exact f13
            ·
              obtain ⟨v20, I20, J20, e20, hq⟩ := obI hq
              have f20 := fO_tr f11 (f238_185_frD e20)
              rcases bsp hq with ⟨-, hq⟩ | ⟨-, hq⟩
              ·
                exact fO_tr f20 (f241_185_j176_frD hq)
              ·
                cases hq
                exact f20
          ·
            obtain ⟨v22, I22, J22, e22, hq⟩ := obI hq
            have f22 := fO_tr (fO_I f9 rfl) (f235_185_frD e22)
            rcases bsp hq with ⟨-, hq⟩ | ⟨-, hq⟩
            ·
              obtain ⟨v24, I24, J24, e24, hq⟩ := obI hq
              have f24 := fO_tr f22 (f228_185_1002_frD e24)
              rcases bsp hq with ⟨-, hq⟩ | ⟨-, hq⟩
              ·
                obtain ⟨v26, I26, J26, e26, hq⟩ := obI hq
                have f26 := fO_tr f24 (f230_185_1002_frD e26)
                rcases bsp hq with ⟨-, hq⟩ | ⟨-, hq⟩
                ·
                  exact fO_tr f26 (f241_185_j164_frD hq)
                ·
                  obtain ⟨v28, I28, J28, e28, hq⟩ := obI hq
                  have f28 := fO_tr f26 (f232_185_frD e28)
                  rcases bsp hq with ⟨-, hq⟩ | ⟨-, hq⟩
                  ·
                    exact fO_tr f28 (f241_185_j164_frD hq)
                  ·
                    generalize e30 : f225_185 I28 J28 5 = q30 at hq
                    obtain ⟨v30, I30, J30⟩ := q30
                    dsimp only at hq
                    have f30 := fO_tr f28 (f225_185_frD e30)
                    cases hq
                    exact f30
              ·
                cases hq
                exact f24
            ·
              obtain ⟨v31, I31, J31, e31, hq⟩ := obI hq
              have f31 := fO_tr f22 (f238_185_frD e31)
              rcases bsp hq with ⟨-, hq⟩ | ⟨-, hq⟩
              ·
                exact fO_tr f31 (f241_185_j176_frD hq)
              ·
                cases hq
                exact f31
        ·
          cases hq
          exact f7
  ·
    cases hq
    exact f1
set_option maxRecDepth 100000 in
theorem f242_185_j57_frD {N : Nat} {I : tI} {J : tJ} {v : Int32} {I1 : tI} {J1 : tJ} (hq : f242_185_j57 N I J = some (v, I1, J1)) : frO qfID qfJD I I1 J J1 := by
  unfold f242_185_j57 at hq
  have f0 : frO qfID qfJD I I J J := fO_refl
  cases hq
  exact (fO_I f0 rfl)
set_option maxRecDepth 100000 in
theorem f242_185_frD {N : Nat} {I : tI} {J : tJ} (hcn : CNT I) {v : Int32} {I1 : tI} {J1 : tJ} (hq : f242_185 N I J = some (v, I1, J1)) : frO qfID qfJD I I1 J J1 := by
  unfold f242_185 at hq
  have f0 : frO qfID qfJD I I J J := fO_refl
  obtain ⟨v1, I1, J1, e1, hq⟩ := obI hq
  have f1 := fO_tr f0 (f236_185_frD (CNT_4 hcn) e1)
  rcases bsp hq with ⟨-, hq⟩ | ⟨-, hq⟩
  ·
    obtain ⟨v3, I3, J3, e3, hq⟩ := obI hq
    have f3 := fO_tr (fO_I f1 rfl) (f235_185_frD e3)
    rcases bsp hq with ⟨-, hq⟩ | ⟨-, hq⟩
    ·
      exact fO_tr f3 (f242_185_j57_frD hq)
    ·
      obtain ⟨v5, I5, J5, e5, hq⟩ := obI hq
      have f5 := fO_tr f3 (f229_185_frD e5)
      rcases bsp hq with ⟨-, hq⟩ | ⟨-, hq⟩
      ·
        exact fO_tr f5 (f242_185_j57_frD hq)
      ·
        cases hq
        exact f5
  ·
    cases hq
    exact f1
set_option maxRecDepth 100000 in
theorem f243_185_j71_frD {N : Nat} {I : tI} {J : tJ} (hcn : CNT I) {x1 : Int32} {v : Int32} {I1 : tI} {J1 : tJ} (hq : f243_185_j71 N I J x1 = some (v, I1, J1)) : frO qfID qfJD I I1 J J1 := by
  unfold f243_185_j71 at hq
  have f0 : frO qfID qfJD I I J J := fO_refl
  rcases bsp hq with ⟨-, hq⟩ | ⟨-, hq⟩
  ·
    obtain ⟨_, I9, J9, e9, hq⟩ := obU hq
    have f9 := fO_tr (fO_I f0 rfl) (f222_185_frD e9)
    obtain ⟨v10, I10, J10, e10, hq⟩ := obI hq
    have f10 := fO_tr f9 (f229_185_frD e10)
    rcases bsp hq with ⟨-, hq⟩ | ⟨-, hq⟩
    ·
      exact fO_tr f10 (f243_185_j164_frD hq)
    ·
      obtain ⟨v12, I12, J12, e12, hq⟩ := obI hq
      have f12 := fO_tr f10 (f228_185_1002_frD e12)
      rcases bsp hq with ⟨-, hq⟩ | ⟨-, hq⟩
      ·
        exact fO_tr f12 (f243_185_j164_frD hq)
      ·
        obtain ⟨v14, I14, J14, e14, hq⟩ := obI hq
        have f14 := fO_tr f12 (f229_185_frD e14)
        rcases bsp hq with ⟨-, hq⟩ | ⟨-, hq⟩
        ·
          exact fO_tr f14 (f243_185_j164_frD hq)
        ·
          exact fO_tr f14 (f243_185_j165_frD hq)
  ·
    rcases bsp hq with ⟨-, hq⟩ | ⟨-, hq⟩
    ·
      obtain ⟨_, I17, J17, e17, hq⟩ := obU hq
      have f17 := fO_tr (fO_I f0 rfl) (f222_185_frD e17)
      obtain ⟨v18, I18, J18, e18, hq⟩ := obI hq
      have f18 := fO_tr f17 (f229_185_frD e18)
      rcases bsp hq with ⟨-, hq⟩ | ⟨-, hq⟩
      ·
        exact fO_tr f18 (f243_185_j214_frD hq)
      ·
        obtain ⟨v20, I20, J20, e20, hq⟩ := obI hq
        have f20 := fO_tr f18 (f228_185_1002_frD e20)
        rcases bsp hq with ⟨-, hq⟩ | ⟨-, hq⟩
        ·
          exact fO_tr f20 (f243_185_j214_frD hq)
        ·
          obtain ⟨v22, I22, J22, e22, hq⟩ := obI hq
          have f22 := fO_tr f20 (f229_185_frD e22)
          rcases bsp hq with ⟨-, hq⟩ | ⟨-, hq⟩
          ·
            exact fO_tr f22 (f243_185_j214_frD hq)
          ·
            exact fO_tr f22 (f243_185_j215_frD hq)
    ·
      rcases bsp hq with ⟨-, hq⟩ | ⟨-, hq⟩
      ·
        obtain ⟨_, I25, J25, e25, hq⟩ := obU hq
        have f25 := fO_tr (fO_I f0 rfl) (f222_185_frD e25)
        obtain ⟨v26, I26, J26, e26, hq⟩ := obI hq
        have f26 := fO_tr f25 (f238_185_frD e26)
        rcases bsp hq with ⟨-, hq⟩ | ⟨-, hq⟩
        ·
          exact fO_tr f26 (f243_185_j278_frD hq)
        ·
          exact fO_tr (fO_I f26 rfl) (f243_185_j278_frD hq)
      ·
        rcases bsp hq with ⟨-, hq⟩ | ⟨-, hq⟩
        ·
          obtain ⟨v29, I29, J29, e29, hq⟩ := obI hq
          have f29 := fO_tr (fO_I f0 rfl) (f240_185_frD (CNT_cg hcn (fun k => tup_ne (by omega))) e29)
          exact fO_tr f29 (f243_185_j278_frD hq)
        ·
          rcases bsp hq with ⟨-, hq⟩ | ⟨-, hq⟩
          ·
            obtain ⟨v31, I31, J31, e31, hq⟩ := obI hq
            have f31 := fO_tr (fO_I f0 rfl) (f241_185_frD (CNT_cg hcn (fun k => tup_ne (by omega))) e31)
            exact fO_tr f31 (f243_185_j278_frD hq)
          ·
            obtain ⟨v32, I32, J32, e32, hq⟩ := obI hq
            have f32 := fO_tr (fO_I f0 rfl) (f242_185_frD (CNT_cg hcn (fun k => tup_ne (by omega))) e32)
            exact fO_tr f32 (f243_185_j278_frD hq)
set_option maxRecDepth 100000 in
theorem f243_185_j47_frD {N : Nat} {I : tI} {J : tJ} (hcn : CNT I) {x1 : Int32} {v : Int32} {I1 : tI} {J1 : tJ} (hq : f243_185_j47 N I J x1 = some (v, I1, J1)) : frO qfID qfJD I I1 J J1 := by
  unfold f243_185_j47 at hq
  have f0 : frO qfID qfJD I I J J := fO_refl
  rcases bsp hq with ⟨-, hq⟩ | ⟨-, hq⟩
  ·
    exact fO_tr f0 (f243_185_j71_frD hcn hq)
  ·
    rcases bsp hq with ⟨-, hq⟩ | ⟨-, hq⟩
    ·
      exact fO_tr f0 (f243_185_j71_frD hcn hq)
    ·
      generalize e9 : f225_185 I J 5 = q9 at hq
      obtain ⟨v9, I9, J9⟩ := q9
      dsimp only at hq
      have f9 := fO_tr f0 (f225_185_frD e9)
      cases hq
      exact f9
set_option maxRecDepth 100000 in
theorem f243_185_frD {N : Nat} {I : tI} {J : tJ} (hcn : CNT I) {v : Int32} {I1 : tI} {J1 : tJ} (hq : f243_185 N I J = some (v, I1, J1)) : frO qfID qfJD I I1 J J1 := by
  unfold f243_185 at hq
  have f0 : frO qfID qfJD I I J J := fO_refl
  obtain ⟨v1, I1, J1, e1, hq⟩ := obI hq
  have f1 := fO_tr f0 (f224_185_1002_frD e1)
  rcases bsp hq with ⟨-, hq⟩ | ⟨-, hq⟩
  ·
    generalize e3 : f225_185 I1 J1 2 = q3 at hq
    obtain ⟨v3, I3, J3⟩ := q3
    dsimp only at hq
    have f3 := fO_tr f1 (f225_185_frD e3)
    cases hq
    exact f3
  ·
    rcases bsp hq with ⟨-, hq⟩ | ⟨-, hq⟩
    ·
      generalize e5 : f225_185 I1 J1 2 = q5 at hq
      obtain ⟨v5, I5, J5⟩ := q5
      dsimp only at hq
      have f5 := fO_tr f1 (f225_185_frD e5)
      cases hq
      exact f5
    ·
      rcases bsp hq with ⟨-, hq⟩ | ⟨-, hq⟩
      ·
        exact fO_tr f1 (f243_185_j47_frD (CNT_cg hcn (fun k => (f224_185_1002_frC e1).1 186 k rfl)) hq)
      ·
        rcases bsp hq with ⟨-, hq⟩ | ⟨-, hq⟩
        ·
          exact fO_tr f1 (f243_185_j47_frD (CNT_cg hcn (fun k => (f224_185_1002_frC e1).1 186 k rfl)) hq)
        ·
          rcases bsp hq with ⟨-, hq⟩ | ⟨-, hq⟩
          ·
            exact fO_tr f1 (f243_185_j47_frD (CNT_cg hcn (fun k => (f224_185_1002_frC e1).1 186 k rfl)) hq)
          ·
            generalize e9 : f225_185 I1 J1 2 = q9 at hq
            obtain ⟨v9, I9, J9⟩ := q9
            dsimp only at hq
            have f9 := fO_tr f1 (f225_185_frD e9)
            cases hq
            exact f9
def qfIG : Nat → Nat → Bool := fun o k => !(Nat.beq o 0 && Nat.beq k 4)
def qfJG : Nat → Nat → Bool := fun _ _ => true
set_option maxRecDepth 100000 in
theorem f127_frG {I : tI} {J : tJ} {a0 : Int32} {a1 : Int32} {a2 : Int32} {v : Int32} {I1 : tI} {J1 : tJ} (hq : f127 I J a0 a1 a2 = (v, I1, J1)) : frO qfIG qfJG I I1 J J1 := by
  unfold f127 at hq
  have f0 : frO qfIG qfJG I I J J := fO_refl
  rcases bsp hq with ⟨-, hq⟩ | ⟨-, hq⟩
  ·
    cases hq
    exact f0
  ·
    rcases bsp hq with ⟨-, hq⟩ | ⟨-, hq⟩
    ·
      cases hq
      exact f0
    ·
      cases hq
      exact f0
set_option maxRecDepth 100000 in
theorem f25_8_l8_frG {N : Nat} : ∀ (k : Nat) {I : tI} {J : tJ} {I1 : tI} {J1 : tJ}, f25_8_l8 N k I J = some (I1, J1) → frO qfIG qfJG I I1 J J1
  | 0, _, _, _, _, hq => by cases hq
  | k + 1, I, J, I1, J1, hq => by
    unfold f25_8_l8 at hq
    have f0 : frO qfIG qfJG I I J J := fO_refl
    rcases bsp hq with ⟨-, hq⟩ | ⟨-, hq⟩
    ·
      cases hq
      exact f0
    ·
      rcases bsp hq with ⟨-, hq⟩ | ⟨-, hq⟩
      ·
        exact fO_tr (fO_I f0 rfl) (f25_8_l8_frG k hq)
      ·
        rcases bsp hq with ⟨-, hq⟩ | ⟨-, hq⟩
        ·
          cases hq
          exact f0
        ·
          exact fO_tr (fO_I f0 rfl) (f25_8_l8_frG k hq)
set_option maxRecDepth 100000 in
theorem f26_8_frG {I : tI} {J : tJ} {a0 : Int32} {v : Int32} {I1 : tI} {J1 : tJ} (hq : f26_8 I J a0 = (v, I1, J1)) : frO qfIG qfJG I I1 J J1 := by
  unfold f26_8 at hq
  have f0 : frO qfIG qfJG I I J J := fO_refl
  rcases bsp hq with ⟨-, hq⟩ | ⟨-, hq⟩
  ·
    cases hq
    exact f0
  ·
    rcases bsp hq with ⟨-, hq⟩ | ⟨-, hq⟩
    ·
      cases hq
      exact f0
    ·
      rcases bsp hq with ⟨-, hq⟩ | ⟨-, hq⟩
      ·
        cases hq
        exact f0
      ·
        cases hq
        exact f0
set_option maxRecDepth 100000 in
theorem f27_8_frG {I : tI} {J : tJ} {a0 : Int32} {v : Int32} {I1 : tI} {J1 : tJ} (hq : f27_8 I J a0 = (v, I1, J1)) : frO qfIG qfJG I I1 J J1 := by
  unfold f27_8 at hq
  have f0 : frO qfIG qfJG I I J J := fO_refl
  rcases bsp hq with ⟨-, hq⟩ | ⟨-, hq⟩
  ·
    cases hq
    exact f0
  ·
    rcases bsp hq with ⟨-, hq⟩ | ⟨-, hq⟩
    ·
      cases hq
      exact f0
    ·
      rcases bsp hq with ⟨-, hq⟩ | ⟨-, hq⟩
      ·
        cases hq
        exact f0
      ·
        cases hq
        exact f0
set_option maxRecDepth 100000 in
theorem f30_8_frG {I : tI} {J : tJ} {v : Unit} {I1 : tI} {J1 : tJ} (hq : f30_8 I J = (v, I1, J1)) : frO qfIG qfJG I I1 J J1 := by
  unfold f30_8 at hq
  have f0 : frO qfIG qfJG I I J J := fO_refl
  rcases bsp hq with ⟨-, hq⟩ | ⟨-, hq⟩
  ·
    cases hq
    exact (fO_I (fO_I (fO_I f0 rfl) rfl) rfl)
  ·
    rcases bsp hq with ⟨-, hq⟩ | ⟨-, hq⟩
    ·
      cases hq
      exact (fO_I (fO_I (fO_I f0 rfl) rfl) rfl)
    ·
      rcases bsp hq with ⟨-, hq⟩ | ⟨-, hq⟩
      ·
        cases hq
        exact (fO_I (fO_I (fO_I f0 rfl) rfl) rfl)
      ·
        rcases bsp hq with ⟨-, hq⟩ | ⟨-, hq⟩
        ·
          cases hq
          exact (fO_I (fO_I (fO_I f0 rfl) rfl) rfl)
        ·
          cases hq
          exact (fO_I (fO_I (fO_I f0 rfl) rfl) rfl)
set_option maxRecDepth 100000 in
theorem f29_8_l0_frG {N : Nat} : ∀ (k : Nat) {I : tI} {J : tJ} {I1 : tI} {J1 : tJ}, f29_8_l0 N k I J = some (I1, J1) → frO qfIG qfJG I I1 J J1
  | 0, _, _, _, _, hq => by cases hq
  | k + 1, I, J, I1, J1, hq => by
    unfold f29_8_l0 at hq
    have f0 : frO qfIG qfJG I I J J := fO_refl
    rcases bsp hq with ⟨-, hq⟩ | ⟨-, hq⟩
    ·
      cases hq
      exact f0
    ·
      generalize e2 : f27_8 I J (I 8 4) = q2 at hq
      obtain ⟨v2, I2, J2⟩ := q2
      dsimp only at hq
      have f2 := fO_tr f0 (f27_8_frG e2)
      rcases bsp hq with ⟨-, hq⟩ | ⟨-, hq⟩
      ·
        cases hq
        exact f2
      ·
        rcases bsp hq with ⟨-, hq⟩ | ⟨-, hq⟩
        ·
          exact fO_tr (fO_I f2 rfl) (f29_8_l0_frG k hq)
        ·
          exact fO_tr (fO_I (fO_I f2 rfl) rfl) (f29_8_l0_frG k hq)
set_option maxRecDepth 100000 in
theorem f29_8_j72_frG {N : Nat} {I : tI} {J : tJ} {v : Unit} {I1 : tI} {J1 : tJ} (hq : f29_8_j72 N I J = some (v, I1, J1)) : frO qfIG qfJG I I1 J J1 := by
  unfold f29_8_j72 at hq
  have f0 : frO qfIG qfJG I I J J := fO_refl
  rcases bsp hq with ⟨-, hq⟩ | ⟨-, hq⟩
  ·
    cases hq
    exact (fO_I f0 rfl)
  ·
    cases hq
    exact (fO_I f0 rfl)
set_option maxRecDepth 100000 in
theorem f29_8_frG {N : Nat} {I : tI} {J : tJ} {v : Unit} {I1 : tI} {J1 : tJ} (hq : f29_8 N I J = some (v, I1, J1)) : frO qfIG qfJG I I1 J J1 := by
  unfold f29_8 at hq
  have f0 : frO qfIG qfJG I I J J := fO_refl
  cases e1 : f29_8_l0 N N I J with
  | none => rw [e1] at hq; cases hq
  | some Y =>
  obtain ⟨I1, J1⟩ := Y
  rw [e1] at hq
  dsimp only at hq
  have f1 := fO_tr f0 (f29_8_l0_frG N e1)
  exact fO_tr f1 (f29_8_j72_frG hq)
set_option maxRecDepth 100000 in
theorem f28_8_l5_frG {N : Nat} : ∀ (k : Nat) {I : tI} {J : tJ} {I1 : tI} {J1 : tJ}, f28_8_l5 N k I J = some (I1, J1) → frO qfIG qfJG I I1 J J1
  | 0, _, _, _, _, hq => by cases hq
  | k + 1, I, J, I1, J1, hq => by
    unfold f28_8_l5 at hq
    have f0 : frO qfIG qfJG I I J J := fO_refl
    rcases bsp hq with ⟨-, hq⟩ | ⟨-, hq⟩
    ·
      cases hq
      exact f0
    ·
      generalize e2 : f26_8 I J (I 8 4) = q2 at hq
      obtain ⟨v2, I2, J2⟩ := q2
      dsimp only at hq
      have f2 := fO_tr f0 (f26_8_frG e2)
      rcases bsp hq with ⟨-, hq⟩ | ⟨-, hq⟩
      ·
        cases hq
        exact f2
      ·
        rcases bsp hq with ⟨-, hq⟩ | ⟨-, hq⟩
        ·
          exact fO_tr (fO_I f2 rfl) (f28_8_l5_frG k hq)
        ·
          exact fO_tr (fO_J (fO_I f2 rfl) rfl) (f28_8_l5_frG k hq)
set_option maxRecDepth 100000 in
theorem f28_8_frG {N : Nat} {I : tI} {J : tJ} {v : Unit} {I1 : tI} {J1 : tJ} (hq : f28_8 N I J = some (v, I1, J1)) : frO qfIG qfJG I I1 J J1 := by
  unfold f28_8 at hq
  have f0 : frO qfIG qfJG I I J J := fO_refl
  cases e1 : f28_8_l5 N N (tup I 8 2 1) J with
  | none => rw [e1] at hq; cases hq
  | some Y =>
  obtain ⟨I1, J1⟩ := Y
  rw [e1] at hq
  dsimp only at hq
  have f1 := fO_tr (fO_I f0 rfl) (f28_8_l5_frG N e1)
  cases hq
  exact f1
set_option maxRecDepth 100000 in
theorem f31_8_l12_frG {N : Nat} : ∀ (k : Nat) {I : tI} {J : tJ} {x1 : Int32} {x2 : Int32} {x3 : Int32} {x4 : Int32} {kx : Nat} {y1 : Int32} {y2 : Int32} {y3 : Int32} {y4 : Int32} {I1 : tI} {J1 : tJ}, f31_8_l12 N k I J x1 x2 x3 x4 = some (kx, y1, y2, y3, y4, I1, J1) → frO qfIG qfJG I I1 J J1
  | 0, _, _, _, _, _, _, _, _, _, _, _, _, _, hq => by cases hq
  | k + 1, I, J, x1, x2, x3, x4, kx, y1, y2, y3, y4, I1, J1, hq => by
    unfold f31_8_l12 at hq
    have f0 : frO qfIG qfJG I I J J := fO_refl
    rcases bsp hq with ⟨-, hq⟩ | ⟨-, hq⟩
    ·
      cases hq
      exact f0
    ·
      rcases bsp hq with ⟨-, hq⟩ | ⟨-, hq⟩
      ·
        rcases bsp hq with ⟨-, hq⟩ | ⟨-, hq⟩
        ·
          exact fO_tr f0 (f31_8_l12_frG k hq)
        ·
          rcases bsp hq with ⟨-, hq⟩ | ⟨-, hq⟩
          ·
            exact fO_tr f0 (f31_8_l12_frG k hq)
          ·
            cases hq
            exact f0
      ·
        rcases bsp hq with ⟨-, hq⟩ | ⟨-, hq⟩
        ·
          exact fO_tr f0 (f31_8_l12_frG k hq)
        ·
          rcases bsp hq with ⟨-, hq⟩ | ⟨-, hq⟩
          ·
            exact fO_tr f0 (f31_8_l12_frG k hq)
          ·
            rcases bsp hq with ⟨-, hq⟩ | ⟨-, hq⟩
            ·
              exact fO_tr f0 (f31_8_l12_frG k hq)
            ·
              exact fO_tr f0 (f31_8_l12_frG k hq)
set_option maxRecDepth 100000 in
theorem f31_8_frG {N : Nat} {I : tI} {J : tJ} {v : Int32} {I1 : tI} {J1 : tJ} (hq : f31_8 N I J = some (v, I1, J1)) : frO qfIG qfJG I I1 J J1 := by
  unfold f31_8 at hq
  have f0 : frO qfIG qfJG I I J J := fO_refl
  cases e1 : f31_8_l12 N N I J 0 (I 8 3) 1 0 with
  | none => rw [e1] at hq; cases hq
  | some Y =>
  obtain ⟨k1, y1_1, y1_2, y1_3, y1_4, I1, J1⟩ := Y
  rw [e1] at hq
  dsimp only at hq
  have f1 := fO_tr f0 (f31_8_l12_frG N e1)
  rcases bsp hq with ⟨-, hq⟩ | ⟨-, hq⟩
  ·
    cases hq
    exact f1
  ·
    cases hq
    exact f1
set_option maxRecDepth 100000 in
theorem f25_8_j60_frG {N : Nat} {I : tI} {J : tJ} {v : Unit} {I1 : tI} {J1 : tJ} (hq : f25_8_j60 N I J = some (v, I1, J1)) : frO qfIG qfJG I I1 J J1 := by
  unfold f25_8_j60 at hq
  have f0 : frO qfIG qfJG I I J J := fO_refl
  rcases bsp hq with ⟨-, hq⟩ | ⟨-, hq⟩
  ·
    generalize e3 : f26_8 (tup (tup (tup I 8 4 (I 8 3)) 8 5 (-1)) 8 7 0) (tup J 8 6 0) (I 8 3) = q3 at hq
    obtain ⟨v3, I3, J3⟩ := q3
    dsimp only at hq
    have f3 := fO_tr (fO_J (fO_I (fO_I (fO_I f0 rfl) rfl) rfl) rfl) (f26_8_frG e3)
    rcases bsp hq with ⟨-, hq⟩ | ⟨-, hq⟩
    ·
      generalize e5 : f27_8 I3 J3 (I3 8 3) = q5 at hq
      obtain ⟨v5, I5, J5⟩ := q5
      dsimp only at hq
      have f5 := fO_tr f3 (f27_8_frG e5)
      rcases bsp hq with ⟨-, hq⟩ | ⟨-, hq⟩
      ·
        generalize e7 : f30_8 I5 J5 = q7 at hq
        obtain ⟨v7, I7, J7⟩ := q7
        dsimp only at hq
        have f7 := fO_tr f5 (f30_8_frG e7)
        cases hq
        exact f7
      ·
        obtain ⟨_, I8, J8, e8, hq⟩ := obU hq
        have f8 := fO_tr f5 (f29_8_frG e8)
        cases hq
        exact f8
    ·
      obtain ⟨_, I9, J9, e9, hq⟩ := obU hq
      have f9 := fO_tr f3 (f28_8_frG e9)
      obtain ⟨v10, I10, J10, e10, hq⟩ := obI hq
      have f10 := fO_tr f9 (f31_8_frG e10)
      cases hq
      exact (fO_I f10 rfl)
  ·
    cases hq
    exact (fO_J (fO_I (fO_I (fO_I (fO_I f0 rfl) rfl) rfl) rfl) rfl)
set_option maxRecDepth 100000 in
theorem f25_8_frG {N : Nat} {I : tI} {J : tJ} {v : Unit} {I1 : tI} {J1 : tJ} (hq : f25_8 N I J = some (v, I1, J1)) : frO qfIG qfJG I I1 J J1 := by
  unfold f25_8 at hq
  have f0 : frO qfIG qfJG I I J J := fO_refl
  cases e1 : f25_8_l8 N N (tup I 8 3 (I 8 4)) J with
  | none => rw [e1] at hq; cases hq
  | some Y =>
  obtain ⟨I1, J1⟩ := Y
  rw [e1] at hq
  dsimp only at hq
  have f1 := fO_tr (fO_I f0 rfl) (f25_8_l8_frG N e1)
  exact fO_tr f1 (f25_8_j60_frG hq)
set_option maxRecDepth 100000 in
theorem f24_8_frG {N : Nat} {I : tI} {J : tJ} {a0 : Int32} {v : Unit} {I1 : tI} {J1 : tJ} (hq : f24_8 N I J a0 = some (v, I1, J1)) : frO qfIG qfJG I I1 J J1 := by
  unfold f24_8 at hq
  have f0 : frO qfIG qfJG I I J J := fO_refl
  obtain ⟨_, I1, J1, e1, hq⟩ := obU hq
  have f1 := fO_tr (fO_I (fO_I (fO_I (fO_I f0 rfl) rfl) rfl) rfl) (f25_8_frG e1)
  cases hq
  exact f1
set_option maxRecDepth 100000 in
theorem f32_8_frG {I : tI} {J : tJ} {v : Int32} {I1 : tI} {J1 : tJ} (hq : f32_8 I J = (v, I1, J1)) : frO qfIG qfJG I I1 J J1 := by
  unfold f32_8 at hq
  have f0 : frO qfIG qfJG I I J J := fO_refl
  rcases bsp hq with ⟨-, hq⟩ | ⟨-, hq⟩
  ·
    cases hq
    exact f0
  ·
    cases hq
    exact f0
set_option maxRecDepth 100000 in
theorem f33_8_frG {I : tI} {J : tJ} {a0 : Int32} {v : Int32} {I1 : tI} {J1 : tJ} (hq : f33_8 I J a0 = (v, I1, J1)) : frO qfIG qfJG I I1 J J1 := by
  unfold f33_8 at hq
  have f0 : frO qfIG qfJG I I J J := fO_refl
  rcases bsp hq with ⟨-, hq⟩ | ⟨-, hq⟩
  ·
    cases hq
    exact (fO_I (fO_I f0 rfl) rfl)
  ·
    cases hq
    exact (fO_I (fO_I f0 rfl) rfl)
set_option maxRecDepth 100000 in
theorem f37_8_frG {I : tI} {J : tJ} {a0 : Int32} {a1 : Int32} {v : Int32} {I1 : tI} {J1 : tJ} (hq : f37_8 I J a0 a1 = (v, I1, J1)) : frO qfIG qfJG I I1 J J1 := by
  unfold f37_8 at hq
  have f0 : frO qfIG qfJG I I J J := fO_refl
  rcases bsp hq with ⟨-, hq⟩ | ⟨-, hq⟩
  ·
    generalize e2 : f127 I J (I 8 7) a0 a1 = q2 at hq
    obtain ⟨v2, I2, J2⟩ := q2
    dsimp only at hq
    have f2 := fO_tr f0 (f127_frG e2)
    rcases bsp hq with ⟨-, hq⟩ | ⟨-, hq⟩
    ·
      cases hq
      exact f2
    ·
      generalize e4 : f33_8 I2 J2 4 = q4 at hq
      obtain ⟨v4, I4, J4⟩ := q4
      dsimp only at hq
      have f4 := fO_tr f2 (f33_8_frG e4)
      rcases bsp hq with ⟨-, hq⟩ | ⟨-, hq⟩
      ·
        cases hq
        exact f4
      ·
        cases hq
        exact f4
  ·
    generalize e6 : f33_8 I J 2 = q6 at hq
    obtain ⟨v6, I6, J6⟩ := q6
    dsimp only at hq
    have f6 := fO_tr f0 (f33_8_frG e6)
    cases hq
    exact f6
set_option maxRecDepth 100000 in
theorem f35_8_frG {N : Nat} {I : tI} {J : tJ} {v : Int32} {I1 : tI} {J1 : tJ} (hq : f35_8 N I J = some (v, I1, J1)) : frO qfIG qfJG I I1 J J1 := by
  unfold f35_8 at hq
  have f0 : frO qfIG qfJG I I J J := fO_refl
  rcases bsp hq with ⟨-, hq⟩ | ⟨-, hq⟩
  ·
    generalize e2 : f33_8 I J 2 = q2 at hq
    obtain ⟨v2, I2, J2⟩ := q2
    dsimp only at hq
    have f2 := fO_tr f0 (f33_8_frG e2)
    cases hq
    exact f2
  ·
    rcases bsp hq with ⟨-, hq⟩ | ⟨-, hq⟩
    ·
      obtain ⟨_, I4, J4, e4, hq⟩ := obU hq
      have f4 := fO_tr f0 (f25_8_frG e4)
      cases hq
      exact f4
    ·
      generalize e5 : f33_8 I J 2 = q5 at hq
      obtain ⟨v5, I5, J5⟩ := q5
      dsimp only at hq
      have f5 := fO_tr f0 (f33_8_frG e5)
      cases hq
      exact f5
set_option maxRecDepth 100000 in
theorem f38_8_frG {I : tI} {J : tJ} {v : Int32} {I1 : tI} {J1 : tJ} (hq : f38_8 I J = (v, I1, J1)) : frO qfIG qfJG I I1 J J1 := by
  unfold f38_8 at hq
  have f0 : frO qfIG qfJG I I J J := fO_refl
  rcases bsp hq with ⟨-, hq⟩ | ⟨-, hq⟩
  ·
    generalize e2 : f33_8 I J 2 = q2 at hq
    obtain ⟨v2, I2, J2⟩ := q2
    dsimp only at hq
    have f2 := fO_tr f0 (f33_8_frG e2)
    rcases bsp hq with ⟨-, hq⟩ | ⟨-, hq⟩
    ·
      cases hq
      exact f2
    ·
      cases hq
      exact f2
  ·
    rcases bsp hq with ⟨-, hq⟩ | ⟨-, hq⟩
    ·
      generalize e5 : f33_8 I J 2 = q5 at hq
      obtain ⟨v5, I5, J5⟩ := q5
      dsimp only at hq
      have f5 := fO_tr f0 (f33_8_frG e5)
      rcases bsp hq with ⟨-, hq⟩ | ⟨-, hq⟩
      ·
        cases hq
        exact f5
      ·
        cases hq
        exact f5
    ·
      rcases bsp hq with ⟨-, hq⟩ | ⟨-, hq⟩
      ·
        cases hq
        exact f0
      ·
        generalize e8 : f33_8 I J 2 = q8 at hq
        obtain ⟨v8, I8, J8⟩ := q8
        dsimp only at hq
        have f8 := fO_tr f0 (f33_8_frG e8)
        rcases bsp hq with ⟨-, hq⟩ | ⟨-, hq⟩
        ·
          cases hq
          exact f8
        ·
          cases hq
          exact f8
set_option maxRecDepth 100000 in
theorem f71_61_frG {I : tI} {J : tJ} {v : Unit} {I1 : tI} {J1 : tJ} (hq : f71_61 I J = (v, I1, J1)) : frO qfIG qfJG I I1 J J1 := by
  unfold f71_61 at hq
  have f0 : frO qfIG qfJG I I J J := fO_refl
  cases hq
  exact (fO_I (fO_I (fO_I f0 rfl) rfl) rfl)
set_option maxRecDepth 100000 in
theorem f52_60_j72_frG {I : tI} {J : tJ} {x1 : Int32} {v : Int32} {I1 : tI} {J1 : tJ} (hq : f52_60_j72 I J x1 = (v, I1, J1)) : frO qfIG qfJG I I1 J J1 := by
  unfold f52_60_j72 at hq
  have f0 : frO qfIG qfJG I I J J := fO_refl
  rcases bsp hq with ⟨-, hq⟩ | ⟨-, hq⟩
  ·
    rcases bsp hq with ⟨-, hq⟩ | ⟨-, hq⟩
    ·
      cases hq
      exact f0
    ·
      rcases bsp hq with ⟨-, hq⟩ | ⟨-, hq⟩
      ·
        cases hq
        exact f0
      ·
        generalize e6 : f33_8 I J 7 = q6 at hq
        obtain ⟨v6, I6, J6⟩ := q6
        dsimp only at hq
        have f6 := fO_tr f0 (f33_8_frG e6)
        rcases bsp hq with ⟨-, hq⟩ | ⟨-, hq⟩
        ·
          cases hq
          exact f6
        ·
          cases hq
          exact f6
  ·
    generalize e8 : f33_8 I J 6 = q8 at hq
    obtain ⟨v8, I8, J8⟩ := q8
    dsimp only at hq
    have f8 := fO_tr f0 (f33_8_frG e8)
    cases hq
    exact f8
set_option maxRecDepth 100000 in
theorem f52_60_j29_frG {I : tI} {J : tJ} {s0 : Int32} {v : Int32} {I1 : tI} {J1 : tJ} (hq : f52_60_j29 I J s0 = (v, I1, J1)) : frO qfIG qfJG I I1 J J1 := by
  unfold f52_60_j29 at hq
  have f0 : frO qfIG qfJG I I J J := fO_refl
  rcases bsp hq with ⟨-, hq⟩ | ⟨-, hq⟩
  ·
    exact fO_tr f0 (f52_60_j72_frG hq)
  ·
    rcases bsp hq with ⟨-, hq⟩ | ⟨-, hq⟩
    ·
      exact fO_tr f0 (f52_60_j72_frG hq)
    ·
      generalize e4 : f127 I J (I 8 5) 21 24 = q4 at hq
      obtain ⟨v4, I4, J4⟩ := q4
      dsimp only at hq
      have f4 := fO_tr f0 (f127_frG e4)
      rcases bsp hq with ⟨-, hq⟩ | ⟨-, hq⟩
      ·
        exact fO_tr f4 (f52_60_j72_frG hq)
      ·
        generalize e6 : f33_8 I4 J4 2 = q6 at hq
        obtain ⟨v6, I6, J6⟩ := q6
        dsimp only at hq
        have f6 := fO_tr f4 (f33_8_frG e6)
        cases hq
        exact f6
set_option maxRecDepth 100000 in
theorem f52_60_j24_frG {I : tI} {J : tJ} {v : Int32} {I1 : tI} {J1 : tJ} (hq : f52_60_j24 I J = (v, I1, J1)) : frO qfIG qfJG I I1 J J1 := by
  unfold f52_60_j24 at hq
  have f0 : frO qfIG qfJG I I J J := fO_refl
  exact fO_tr f0 (f52_60_j29_frG hq)
set_option maxRecDepth 100000 in
theorem f52_60_frG {I : tI} {J : tJ} {v : Int32} {I1 : tI} {J1 : tJ} (hq : f52_60 I J = (v, I1, J1)) : frO qfIG qfJG I I1 J J1 := by
  unfold f52_60 at hq
  have f0 : frO qfIG qfJG I I J J := fO_refl
  rcases bsp hq with ⟨-, hq⟩ | ⟨-, hq⟩
  ·
    exact fO_tr f0 (f52_60_j24_frG hq)
  ·
    rcases bsp hq with ⟨-, hq⟩ | ⟨-, hq⟩
    ·
      exact fO_tr f0 (f52_60_j29_frG hq)
    ·
      exact fO_tr f0 (f52_60_j24_frG hq)
set_option maxRecDepth 100000 in
theorem f40_31_l3_frG {N : Nat} : ∀ (k : Nat) {I : tI} {J : tJ} {x1 : Int32} {x2 : Int64} {x4 : Int32} {kx : Nat} {y1 : Int32} {y2 : Int64} {y4 : Int32} {I1 : tI} {J1 : tJ}, f40_31_l3 N k I J x1 x2 x4 = some (kx, y1, y2, y4, I1, J1) → frO qfIG qfJG I I1 J J1
  | 0, _, _, _, _, _, _, _, _, _, _, _, hq => by cases hq
  | k + 1, I, J, x1, x2, x4, kx, y1, y2, y4, I1, J1, hq => by
    unfold f40_31_l3 at hq
    have f0 : frO qfIG qfJG I I J J := fO_refl
    rcases bsp hq with ⟨-, hq⟩ | ⟨-, hq⟩
    ·
      cases hq
      exact f0
    ·
      rcases bsp hq with ⟨-, hq⟩ | ⟨-, hq⟩
      ·
        cases hq
        exact f0
      ·
        rcases bsp hq with ⟨-, hq⟩ | ⟨-, hq⟩
        ·
          exact fO_tr f0 (f40_31_l3_frG k hq)
        ·
          cases hq
          exact f0
set_option maxRecDepth 100000 in
theorem f40_31_frG {N : Nat} {I : tI} {J : tJ} {a0 : Int32} {a1 : Int64} {v : Int32} {I1 : tI} {J1 : tJ} (hq : f40_31 N I J a0 a1 = some (v, I1, J1)) : frO qfIG qfJG I I1 J J1 := by
  unfold f40_31 at hq
  have f0 : frO qfIG qfJG I I J J := fO_refl
  cases e1 : f40_31_l3 N N I J a0 a1 0 with
  | none => rw [e1] at hq; cases hq
  | some Y =>
  obtain ⟨k1, y1_1, y1_2, y1_4, I1, J1⟩ := Y
  rw [e1] at hq
  dsimp only at hq
  have f1 := fO_tr f0 (f40_31_l3_frG N e1)
  rcases bsp hq with ⟨-, hq⟩ | ⟨-, hq⟩
  ·
    cases hq
    exact f1
  ·
    cases hq
    exact f1
set_option maxRecDepth 100000 in
theorem f39_8_31_frG {N : Nat} {I : tI} {J : tJ} {a0 : Int32} {v : Int32} {I1 : tI} {J1 : tJ} (hq : f39_8_31 N I J a0 = some (v, I1, J1)) : frO qfIG qfJG I I1 J J1 := by
  unfold f39_8_31 at hq
  have f0 : frO qfIG qfJG I I J J := fO_refl
  generalize e1 : f38_8 I J = q1 at hq
  obtain ⟨v1, I1, J1⟩ := q1
  dsimp only at hq
  have f1 := fO_tr f0 (f38_8_frG e1)
  rcases bsp hq with ⟨-, hq⟩ | ⟨-, hq⟩
  ·
    obtain ⟨v3, I3, J3, e3, hq⟩ := obI hq
    have f3 := fO_tr f1 (f40_31_frG e3)
    rcases bsp hq with ⟨-, hq⟩ | ⟨-, hq⟩
    ·
      cases hq
      exact (fO_I f3 rfl)
    ·
      generalize e5 : f33_8 (tup I3 8 8 v3) J3 3 = q5 at hq
      obtain ⟨v5, I5, J5⟩ := q5
      dsimp only at hq
      have f5 := fO_tr (fO_I f3 rfl) (f33_8_frG e5)
      rcases bsp hq with ⟨-, hq⟩ | ⟨-, hq⟩
      ·
        cases hq
        exact f5
      ·
        cases hq
        exact f5
  ·
    cases hq
    exact f1
set_option maxRecDepth 100000 in
theorem f73_61_frG {I : tI} {J : tJ} {a0 : Int32} {a1 : Int32} {a2 : Int32} {v : Unit} {I1 : tI} {J1 : tJ} (hq : f73_61 I J a0 a1 a2 = (v, I1, J1)) : frO qfIG qfJG I I1 J J1 := by
  unfold f73_61 at hq
  have f0 : frO qfIG qfJG I I J J := fO_refl
  rcases bsp hq with ⟨-, hq⟩ | ⟨-, hq⟩
  ·
    cases hq
    exact f0
  ·
    cases hq
    exact (fO_I (fO_I (fO_I (fO_I (fO_I f0 rfl) rfl) rfl) rfl) rfl)
set_option maxRecDepth 100000 in
theorem f56_60_10_frG {N : Nat} {I : tI} {J : tJ} {v : Int32} {I1 : tI} {J1 : tJ} (hq : f56_60_10 N I J = some (v, I1, J1)) : frO qfIG qfJG I I1 J J1 := by
  unfold f56_60_10 at hq
  have f0 : frO qfIG qfJG I I J J := fO_refl
  obtain ⟨v1, I1, J1, e1, hq⟩ := obI hq
  have f1 := fO_tr f0 (f39_8_31_frG e1)
  rcases bsp hq with ⟨-, hq⟩ | ⟨-, hq⟩
  ·
    obtain ⟨_, I3, J3, e3, hq⟩ := obU hq
    have f3 := fO_tr f1 (f25_8_frG e3)
    generalize e4 : f37_8 I3 J3 1 20 = q4 at hq
    obtain ⟨v4, I4, J4⟩ := q4
    dsimp only at hq
    have f4 := fO_tr f3 (f37_8_frG e4)
    rcases bsp hq with ⟨-, hq⟩ | ⟨-, hq⟩
    ·
      generalize e6 : f73_61 I4 J4 0 (I1 8 8) (I4 8 7) = q6 at hq
      obtain ⟨v6, I6, J6⟩ := q6
      dsimp only at hq
      have f6 := fO_tr f4 (f73_61_frG e6)
      obtain ⟨_, I7, J7, e7, hq⟩ := obU hq
      have f7 := fO_tr f6 (f25_8_frG e7)
      cases hq
      exact f7
    ·
      cases hq
      exact f4
  ·
    cases hq
    exact f1
set_option maxRecDepth 100000 in
theorem f57_60_frG {N : Nat} {I : tI} {J : tJ} {a0 : Int32} {a1 : Int32} {v : Int32} {I1 : tI} {J1 : tJ} (hq : f57_60 N I J a0 a1 = some (v, I1, J1)) : frO qfIG qfJG I I1 J J1 := by
  unfold f57_60 at hq
  have f0 : frO qfIG qfJG I I J J := fO_refl
  generalize e1 : f37_8 I J 1 a1 = q1 at hq
  obtain ⟨v1, I1, J1⟩ := q1
  dsimp only at hq
  have f1 := fO_tr f0 (f37_8_frG e1)
  rcases bsp hq with ⟨-, hq⟩ | ⟨-, hq⟩
  ·
    generalize e3 : f73_61 I1 J1 a0 (I1 8 7) 0 = q3 at hq
    obtain ⟨v3, I3, J3⟩ := q3
    dsimp only at hq
    have f3 := fO_tr f1 (f73_61_frG e3)
    obtain ⟨_, I4, J4, e4, hq⟩ := obU hq
    have f4 := fO_tr f3 (f25_8_frG e4)
    cases hq
    exact f4
  ·
    cases hq
    exact f1
set_option maxRecDepth 100000 in
theorem f58_60_10_frG {N : Nat} {I : tI} {J : tJ} {v : Int32} {I1 : tI} {J1 : tJ} (hq : f58_60_10 N I J = some (v, I1, J1)) : frO qfIG qfJG I I1 J J1 := by
  unfold f58_60_10 at hq
  have f0 : frO qfIG qfJG I I J J := fO_refl
  obtain ⟨v1, I1, J1, e1, hq⟩ := obI hq
  have f1 := fO_tr f0 (f39_8_31_frG e1)
  rcases bsp hq with ⟨-, hq⟩ | ⟨-, hq⟩
  ·
    obtain ⟨_, I3, J3, e3, hq⟩ := obU hq
    have f3 := fO_tr f1 (f25_8_frG e3)
    obtain ⟨v4, I4, J4, e4, hq⟩ := obI hq
    have f4 := fO_tr f3 (f39_8_31_frG e4)
    rcases bsp hq with ⟨-, hq⟩ | ⟨-, hq⟩
    ·
      generalize e6 : f73_61 I4 J4 2 (I1 8 8) (I4 8 8) = q6 at hq
      obtain ⟨v6, I6, J6⟩ := q6
      dsimp only at hq
      have f6 := fO_tr f4 (f73_61_frG e6)
      obtain ⟨_, I7, J7, e7, hq⟩ := obU hq
      have f7 := fO_tr f6 (f25_8_frG e7)
      cases hq
      exact f7
    ·
      cases hq
      exact f4
  ·
    cases hq
    exact f1
set_option maxRecDepth 100000 in
theorem f55_60_frG {I : tI} {J : tJ} {v : Unit} {I1 : tI} {J1 : tJ} (hq : f55_60 I J = (v, I1, J1)) : frO qfIG qfJG I I1 J J1 := by
  unfold f55_60 at hq
  have f0 : frO qfIG qfJG I I J J := fO_refl
  rcases bsp hq with ⟨-, hq⟩ | ⟨-, hq⟩
  ·
    cases hq
    exact f0
  ·
    cases hq
    exact (fO_I (fO_I f0 rfl) rfl)
set_option maxRecDepth 100000 in
theorem f40_13_l3_frG {N : Nat} : ∀ (k : Nat) {I : tI} {J : tJ} {x1 : Int32} {x2 : Int64} {x4 : Int32} {kx : Nat} {y1 : Int32} {y2 : Int64} {y4 : Int32} {I1 : tI} {J1 : tJ}, f40_13_l3 N k I J x1 x2 x4 = some (kx, y1, y2, y4, I1, J1) → frO qfIG qfJG I I1 J J1
  | 0, _, _, _, _, _, _, _, _, _, _, _, hq => by cases hq
  | k + 1, I, J, x1, x2, x4, kx, y1, y2, y4, I1, J1, hq => by
    unfold f40_13_l3 at hq
    have f0 : frO qfIG qfJG I I J J := fO_refl
    rcases bsp hq with ⟨-, hq⟩ | ⟨-, hq⟩
    ·
      cases hq
      exact f0
    ·
      rcases bsp hq with ⟨-, hq⟩ | ⟨-, hq⟩
      ·
        cases hq
        exact f0
      ·
        rcases bsp hq with ⟨-, hq⟩ | ⟨-, hq⟩
        ·
          exact fO_tr f0 (f40_13_l3_frG k hq)
        ·
          cases hq
          exact f0
set_option maxRecDepth 100000 in
theorem f40_13_frG {N : Nat} {I : tI} {J : tJ} {a0 : Int32} {a1 : Int64} {v : Int32} {I1 : tI} {J1 : tJ} (hq : f40_13 N I J a0 a1 = some (v, I1, J1)) : frO qfIG qfJG I I1 J J1 := by
  unfold f40_13 at hq
  have f0 : frO qfIG qfJG I I J J := fO_refl
  cases e1 : f40_13_l3 N N I J a0 a1 0 with
  | none => rw [e1] at hq; cases hq
  | some Y =>
  obtain ⟨k1, y1_1, y1_2, y1_4, I1, J1⟩ := Y
  rw [e1] at hq
  dsimp only at hq
  have f1 := fO_tr f0 (f40_13_l3_frG N e1)
  rcases bsp hq with ⟨-, hq⟩ | ⟨-, hq⟩
  ·
    cases hq
    exact f1
  ·
    cases hq
    exact f1
set_option maxRecDepth 100000 in
theorem f39_8_13_frG {N : Nat} {I : tI} {J : tJ} {a0 : Int32} {v : Int32} {I1 : tI} {J1 : tJ} (hq : f39_8_13 N I J a0 = some (v, I1, J1)) : frO qfIG qfJG I I1 J J1 := by
  unfold f39_8_13 at hq
  have f0 : frO qfIG qfJG I I J J := fO_refl
  generalize e1 : f38_8 I J = q1 at hq
  obtain ⟨v1, I1, J1⟩ := q1
  dsimp only at hq
  have f1 := fO_tr f0 (f38_8_frG e1)
  rcases bsp hq with ⟨-, hq⟩ | ⟨-, hq⟩
  ·
    obtain ⟨v3, I3, J3, e3, hq⟩ := obI hq
    have f3 := fO_tr f1 (f40_13_frG e3)
    rcases bsp hq with ⟨-, hq⟩ | ⟨-, hq⟩
    ·
      cases hq
      exact (fO_I f3 rfl)
    ·
      generalize e5 : f33_8 (tup I3 8 8 v3) J3 3 = q5 at hq
      obtain ⟨v5, I5, J5⟩ := q5
      dsimp only at hq
      have f5 := fO_tr (fO_I f3 rfl) (f33_8_frG e5)
      rcases bsp hq with ⟨-, hq⟩ | ⟨-, hq⟩
      ·
        cases hq
        exact f5
      ·
        cases hq
        exact f5
  ·
    cases hq
    exact f1
set_option maxRecDepth 100000 in
theorem f59_60_10_j107_frG {N : Nat} {I : tI} {J : tJ} {x3 : Int32} {s0 : Int32} {v : Int32} {I1 : tI} {J1 : tJ} (hq : f59_60_10_j107 N I J x3 s0 = some (v, I1, J1)) : frO qfIG qfJG I I1 J J1 := by
  unfold f59_60_10_j107 at hq
  have f0 : frO qfIG qfJG I I J J := fO_refl
  rcases bsp hq with ⟨-, hq⟩ | ⟨-, hq⟩
  ·
    rcases bsp hq with ⟨-, hq⟩ | ⟨-, hq⟩
    ·
      generalize e9 : f73_61 I J 7 (I 8 8) 0 = q9 at hq
      obtain ⟨v9, I9, J9⟩ := q9
      dsimp only at hq
      have f9 := fO_tr f0 (f73_61_frG e9)
      obtain ⟨_, I10, J10, e10, hq⟩ := obU hq
      have f10 := fO_tr f9 (f25_8_frG e10)
      cases hq
      exact f10
    ·
      generalize e11 : f73_61 I J 6 (I 8 8) 0 = q11 at hq
      obtain ⟨v11, I11, J11⟩ := q11
      dsimp only at hq
      have f11 := fO_tr f0 (f73_61_frG e11)
      obtain ⟨_, I12, J12, e12, hq⟩ := obU hq
      have f12 := fO_tr f11 (f25_8_frG e12)
      cases hq
      exact f12
  ·
    cases hq
    exact f0
set_option maxRecDepth 100000 in
theorem f40_22_l3_frG {N : Nat} : ∀ (k : Nat) {I : tI} {J : tJ} {x1 : Int32} {x2 : Int64} {x4 : Int32} {kx : Nat} {y1 : Int32} {y2 : Int64} {y4 : Int32} {I1 : tI} {J1 : tJ}, f40_22_l3 N k I J x1 x2 x4 = some (kx, y1, y2, y4, I1, J1) → frO qfIG qfJG I I1 J J1
  | 0, _, _, _, _, _, _, _, _, _, _, _, hq => by cases hq
  | k + 1, I, J, x1, x2, x4, kx, y1, y2, y4, I1, J1, hq => by
    unfold f40_22_l3 at hq
    have f0 : frO qfIG qfJG I I J J := fO_refl
    rcases bsp hq with ⟨-, hq⟩ | ⟨-, hq⟩
    ·
      cases hq
      exact f0
    ·
      rcases bsp hq with ⟨-, hq⟩ | ⟨-, hq⟩
      ·
        cases hq
        exact f0
      ·
        rcases bsp hq with ⟨-, hq⟩ | ⟨-, hq⟩
        ·
          exact fO_tr f0 (f40_22_l3_frG k hq)
        ·
          cases hq
          exact f0
set_option maxRecDepth 100000 in
theorem f40_22_frG {N : Nat} {I : tI} {J : tJ} {a0 : Int32} {a1 : Int64} {v : Int32} {I1 : tI} {J1 : tJ} (hq : f40_22 N I J a0 a1 = some (v, I1, J1)) : frO qfIG qfJG I I1 J J1 := by
  unfold f40_22 at hq
  have f0 : frO qfIG qfJG I I J J := fO_refl
  cases e1 : f40_22_l3 N N I J a0 a1 0 with
  | none => rw [e1] at hq; cases hq
  | some Y =>
  obtain ⟨k1, y1_1, y1_2, y1_4, I1, J1⟩ := Y
  rw [e1] at hq
  dsimp only at hq
  have f1 := fO_tr f0 (f40_22_l3_frG N e1)
  rcases bsp hq with ⟨-, hq⟩ | ⟨-, hq⟩
  ·
    cases hq
    exact f1
  ·
    cases hq
    exact f1
set_option maxRecDepth 100000 in
theorem f39_8_22_frG {N : Nat} {I : tI} {J : tJ} {a0 : Int32} {v : Int32} {I1 : tI} {J1 : tJ} (hq : f39_8_22 N I J a0 = some (v, I1, J1)) : frO qfIG qfJG I I1 J J1 := by
  unfold f39_8_22 at hq
  have f0 : frO qfIG qfJG I I J J := fO_refl
  generalize e1 : f38_8 I J = q1 at hq
  obtain ⟨v1, I1, J1⟩ := q1
  dsimp only at hq
  have f1 := fO_tr f0 (f38_8_frG e1)
  rcases bsp hq with ⟨-, hq⟩ | ⟨-, hq⟩
  ·
    obtain ⟨v3, I3, J3, e3, hq⟩ := obI hq
    have f3 := fO_tr f1 (f40_22_frG e3)
    rcases bsp hq with ⟨-, hq⟩ | ⟨-, hq⟩
    ·
      cases hq
      exact (fO_I f3 rfl)
    ·
      generalize e5 : f33_8 (tup I3 8 8 v3) J3 3 = q5 at hq
      obtain ⟨v5, I5, J5⟩ := q5
      dsimp only at hq
      have f5 := fO_tr (fO_I f3 rfl) (f33_8_frG e5)
      rcases bsp hq with ⟨-, hq⟩ | ⟨-, hq⟩
      ·
        cases hq
        exact f5
      ·
        cases hq
        exact f5
  ·
    cases hq
    exact f1
set_option maxRecDepth 100000 in
theorem f59_60_10_j51_frG {N : Nat} {I : tI} {J : tJ} {x3 : Int32} {v : Int32} {I1 : tI} {J1 : tJ} (hq : f59_60_10_j51 N I J x3 = some (v, I1, J1)) : frO qfIG qfJG I I1 J J1 := by
  unfold f59_60_10_j51 at hq
  have f0 : frO qfIG qfJG I I J J := fO_refl
  obtain ⟨_, I4, J4, e4, hq⟩ := obU hq
  have f4 := fO_tr f0 (f25_8_frG e4)
  rcases bsp hq with ⟨-, hq⟩ | ⟨-, hq⟩
  ·
    obtain ⟨v6, I6, J6, e6, hq⟩ := obI hq
    have f6 := fO_tr f4 (f39_8_13_frG e6)
    exact fO_tr f6 (f59_60_10_j107_frG hq)
  ·
    obtain ⟨v7, I7, J7, e7, hq⟩ := obI hq
    have f7 := fO_tr f4 (f39_8_22_frG e7)
    exact fO_tr f7 (f59_60_10_j107_frG hq)
set_option maxRecDepth 100000 in
theorem f59_60_10_j31_frG {N : Nat} {I : tI} {J : tJ} {x2 : Int32} {s0 : Int32} {v : Int32} {I1 : tI} {J1 : tJ} (hq : f59_60_10_j31 N I J x2 s0 = some (v, I1, J1)) : frO qfIG qfJG I I1 J J1 := by
  unfold f59_60_10_j31 at hq
  have f0 : frO qfIG qfJG I I J J := fO_refl
  rcases bsp hq with ⟨-, hq⟩ | ⟨-, hq⟩
  ·
    exact fO_tr f0 (f59_60_10_j51_frG hq)
  ·
    rcases bsp hq with ⟨-, hq⟩ | ⟨-, hq⟩
    ·
      exact fO_tr f0 (f59_60_10_j51_frG hq)
    ·
      generalize e5 : f33_8 I J 2 = q5 at hq
      obtain ⟨v5, I5, J5⟩ := q5
      dsimp only at hq
      have f5 := fO_tr f0 (f33_8_frG e5)
      cases hq
      exact f5
set_option maxRecDepth 100000 in
theorem f36_8_frG {I : tI} {J : tJ} {v : Int32} {I1 : tI} {J1 : tJ} (hq : f36_8 I J = (v, I1, J1)) : frO qfIG qfJG I I1 J J1 := by
  unfold f36_8 at hq
  have f0 : frO qfIG qfJG I I J J := fO_refl
  rcases bsp hq with ⟨-, hq⟩ | ⟨-, hq⟩
  ·
    generalize e2 : f33_8 I J 2 = q2 at hq
    obtain ⟨v2, I2, J2⟩ := q2
    dsimp only at hq
    have f2 := fO_tr f0 (f33_8_frG e2)
    rcases bsp hq with ⟨-, hq⟩ | ⟨-, hq⟩
    ·
      cases hq
      exact f2
    ·
      cases hq
      exact f2
  ·
    rcases bsp hq with ⟨-, hq⟩ | ⟨-, hq⟩
    ·
      cases hq
      exact f0
    ·
      generalize e5 : f33_8 I J 2 = q5 at hq
      obtain ⟨v5, I5, J5⟩ := q5
      dsimp only at hq
      have f5 := fO_tr f0 (f33_8_frG e5)
      rcases bsp hq with ⟨-, hq⟩ | ⟨-, hq⟩
      ·
        cases hq
        exact f5
      ·
        cases hq
        exact f5
set_option maxRecDepth 100000 in
theorem f60_60_10_j90_frG {N : Nat} {I : tI} {J : tJ} {x2 : Int32} {s0 : Int32} {v : Int32} {I1 : tI} {J1 : tJ} (hq : f60_60_10_j90 N I J x2 s0 = some (v, I1, J1)) : frO qfIG qfJG I I1 J J1 := by
  unfold f60_60_10_j90 at hq
  have f0 : frO qfIG qfJG I I J J := fO_refl
  obtain ⟨_, I9, J9, e9, hq⟩ := obU hq
  have f9 := fO_tr f0 (f25_8_frG e9)
  generalize e10 : f37_8 I9 J9 0 9999 = q10 at hq
  obtain ⟨v10, I10, J10⟩ := q10
  dsimp only at hq
  have f10 := fO_tr f9 (f37_8_frG e10)
  rcases bsp hq with ⟨-, hq⟩ | ⟨-, hq⟩
  ·
    generalize e12 : f73_61 I10 J10 s0 x2 (I10 8 7) = q12 at hq
    obtain ⟨v12, I12, J12⟩ := q12
    dsimp only at hq
    have f12 := fO_tr f10 (f73_61_frG e12)
    obtain ⟨_, I13, J13, e13, hq⟩ := obU hq
    have f13 := fO_tr f12 (f25_8_frG e13)
    cases hq
    exact f13
  ·
    cases hq
    exact f10
set_option maxRecDepth 100000 in
theorem f60_60_10_frG {N : Nat} {I : tI} {J : tJ} {v : Int32} {I1 : tI} {J1 : tJ} (hq : f60_60_10 N I J = some (v, I1, J1)) : frO qfIG qfJG I I1 J J1 := by
  unfold f60_60_10 at hq
  have f0 : frO qfIG qfJG I I J J := fO_refl
  obtain ⟨_, I1, J1, e1, hq⟩ := obU hq
  have f1 := fO_tr f0 (f25_8_frG e1)
  obtain ⟨v2, I2, J2, e2, hq⟩ := obI hq
  have f2 := fO_tr f1 (f39_8_31_frG e2)
  rcases bsp hq with ⟨-, hq⟩ | ⟨-, hq⟩
  ·
    obtain ⟨_, I4, J4, e4, hq⟩ := obU hq
    have f4 := fO_tr f2 (f25_8_frG e4)
    generalize e5 : f36_8 I4 J4 = q5 at hq
    obtain ⟨v5, I5, J5⟩ := q5
    dsimp only at hq
    have f5 := fO_tr f4 (f36_8_frG e5)
    rcases bsp hq with ⟨-, hq⟩ | ⟨-, hq⟩
    ·
      rcases bsp hq with ⟨-, hq⟩ | ⟨-, hq⟩
      ·
        rcases bsp hq with ⟨-, hq⟩ | ⟨-, hq⟩
        ·
          exact fO_tr f5 (f60_60_10_j90_frG hq)
        ·
          exact fO_tr f5 (f60_60_10_j90_frG hq)
      ·
        exact fO_tr f5 (f60_60_10_j90_frG hq)
    ·
      cases hq
      exact f5
  ·
    cases hq
    exact f2
set_option maxRecDepth 100000 in
theorem f59_60_10_frG {N : Nat} {I : tI} {J : tJ} {v : Int32} {I1 : tI} {J1 : tJ} (hq : f59_60_10 N I J = some (v, I1, J1)) : frO qfIG qfJG I I1 J J1 := by
  unfold f59_60_10 at hq
  have f0 : frO qfIG qfJG I I J J := fO_refl
  rcases bsp hq with ⟨-, hq⟩ | ⟨-, hq⟩
  ·
    rcases bsp hq with ⟨-, hq⟩ | ⟨-, hq⟩
    ·
      exact fO_tr f0 (f59_60_10_j31_frG hq)
    ·
      exact fO_tr f0 (f59_60_10_j31_frG hq)
  ·
    obtain ⟨v3, I3, J3, e3, hq⟩ := obI hq
    have f3 := fO_tr f0 (f60_60_10_frG e3)
    cases hq
    exact f3
set_option maxRecDepth 100000 in
theorem f54_60_10_frG {N : Nat} {I : tI} {J : tJ} {v : Int32} {I1 : tI} {J1 : tJ} (hq : f54_60_10 N I J = some (v, I1, J1)) : frO qfIG qfJG I I1 J J1 := by
  unfold f54_60_10 at hq
  have f0 : frO qfIG qfJG I I J J := fO_refl
  obtain ⟨_, I1, J1, e1, hq⟩ := obU hq
  have f1 := fO_tr (fO_I f0 rfl) (f25_8_frG e1)
  rcases bsp hq with ⟨-, hq⟩ | ⟨-, hq⟩
  ·
    obtain ⟨v3, I3, J3, e3, hq⟩ := obI hq
    have f3 := fO_tr f1 (f56_60_10_frG e3)
    cases hq
    exact f3
  ·
    rcases bsp hq with ⟨-, hq⟩ | ⟨-, hq⟩
    ·
      obtain ⟨v5, I5, J5, e5, hq⟩ := obI hq
      have f5 := fO_tr f1 (f57_60_frG e5)
      cases hq
      exact f5
    ·
      rcases bsp hq with ⟨-, hq⟩ | ⟨-, hq⟩
      ·
        obtain ⟨v7, I7, J7, e7, hq⟩ := obI hq
        have f7 := fO_tr f1 (f58_60_10_frG e7)
        cases hq
        exact f7
      ·
        rcases bsp hq with ⟨-, hq⟩ | ⟨-, hq⟩
        ·
          generalize e9 : f73_61 I1 J1 3 0 0 = q9 at hq
          obtain ⟨v9, I9, J9⟩ := q9
          dsimp only at hq
          have f9 := fO_tr f1 (f73_61_frG e9)
          cases hq
          exact f9
        ·
          rcases bsp hq with ⟨-, hq⟩ | ⟨-, hq⟩
          ·
            generalize e11 : f55_60 I1 J1 = q11 at hq
            obtain ⟨v11, I11, J11⟩ := q11
            dsimp only at hq
            have f11 := fO_tr f1 (f55_60_frG e11)
            obtain ⟨v12, I12, J12, e12, hq⟩ := obI hq
            have f12 := fO_tr f11 (f59_60_10_frG e12)
            cases hq
            exact f12
          ·
            rcases bsp hq with ⟨-, hq⟩ | ⟨-, hq⟩
            ·
              generalize e14 : f55_60 I1 J1 = q14 at hq
              obtain ⟨v14, I14, J14⟩ := q14
              dsimp only at hq
              have f14 := fO_tr f1 (f55_60_frG e14)
              obtain ⟨v15, I15, J15, e15, hq⟩ := obI hq
              have f15 := fO_tr f14 (f57_60_frG e15)
              cases hq
              exact f15
            ·
              generalize e16 : f73_61 I1 J1 4 0 0 = q16 at hq
              obtain ⟨v16, I16, J16⟩ := q16
              dsimp only at hq
              have f16 := fO_tr f1 (f73_61_frG e16)
              cases hq
              exact f16
set_option maxRecDepth 100000 in
theorem f53_60_frG {N : Nat} {I : tI} {J : tJ} {v : Int32} {I1 : tI} {J1 : tJ} (hq : f53_60 N I J = some (v, I1, J1)) : frO qfIG qfJG I I1 J J1 := by
  unfold f53_60 at hq
  have f0 : frO qfIG qfJG I I J J := fO_refl
  rcases bsp hq with ⟨-, hq⟩ | ⟨-, hq⟩
  ·
    generalize e2 : f73_61 (tup (tup I 60 3 ((I 60 3) - 1)) 65 (((I 66 ((((I 60 3) - 1))).toNatClampNeg)).toNatClampNeg) (I 61 2)) J 11 0 0 = q2 at hq
    obtain ⟨v2, I2, J2⟩ := q2
    dsimp only at hq
    have f2 := fO_tr (fO_I (fO_I f0 rfl) rfl) (f73_61_frG e2)
    obtain ⟨_, I3, J3, e3, hq⟩ := obU hq
    have f3 := fO_tr (fO_I f2 rfl) (f25_8_frG e3)
    cases hq
    exact f3
  ·
    generalize e4 : f33_8 I J 2 = q4 at hq
    obtain ⟨v4, I4, J4⟩ := q4
    dsimp only at hq
    have f4 := fO_tr f0 (f33_8_frG e4)
    cases hq
    exact f4
set_option maxRecDepth 100000 in
theorem f51_60_10_l25_frG {N : Nat} : ∀ (k : Nat) {I : tI} {J : tJ} {x3 : Int32} {x4 : Int32} {y3 : Int32} {y4 : Int32} {I1 : tI} {J1 : tJ}, f51_60_10_l25 N k I J x3 x4 = some (y3, y4, I1, J1) → frO qfIG qfJG I I1 J J1
  | 0, _, _, _, _, _, _, _, _, hq => by cases hq
  | k + 1, I, J, x3, x4, y3, y4, I1, J1, hq => by
    unfold f51_60_10_l25 at hq
    have f0 : frO qfIG qfJG I I J J := fO_refl
    rcases bsp hq with ⟨-, hq⟩ | ⟨-, hq⟩
    ·
      cases hq
      exact f0
    ·
      rcases bsp hq with ⟨-, hq⟩ | ⟨-, hq⟩
      ·
        cases hq
        exact f0
      ·
        generalize e5 : f32_8 I J = q5 at hq
        obtain ⟨v5, I5, J5⟩ := q5
        dsimp only at hq
        have f5 := fO_tr f0 (f32_8_frG e5)
        rcases bsp hq with ⟨-, hq⟩ | ⟨-, hq⟩
        ·
          cases hq
          exact f5
        ·
          rcases bsp hq with ⟨-, hq⟩ | ⟨-, hq⟩
          ·
            generalize e8 : f52_60 I5 J5 = q8 at hq
            obtain ⟨v8, I8, J8⟩ := q8
            dsimp only at hq
            have f8 := fO_tr f5 (f52_60_frG e8)
            rcases bsp hq with ⟨-, hq⟩ | ⟨-, hq⟩
            ·
              rcases bsp hq with ⟨-, hq⟩ | ⟨-, hq⟩
              ·
                exact fO_tr f8 (f51_60_10_l25_frG k hq)
              ·
                obtain ⟨v11, I11, J11, e11, hq⟩ := obI hq
                have f11 := fO_tr f8 (f35_8_frG e11)
                rcases bsp hq with ⟨-, hq⟩ | ⟨-, hq⟩
                ·
                  exact fO_tr f11 (f51_60_10_l25_frG k hq)
                ·
                  exact fO_tr f11 (f51_60_10_l25_frG k hq)
            ·
              obtain ⟨v13, I13, J13, e13, hq⟩ := obI hq
              have f13 := fO_tr f8 (f54_60_10_frG e13)
              rcases bsp hq with ⟨-, hq⟩ | ⟨-, hq⟩
              ·
                rcases bsp hq with ⟨-, hq⟩ | ⟨-, hq⟩
                ·
                  exact fO_tr f13 (f51_60_10_l25_frG k hq)
                ·
                  obtain ⟨v16, I16, J16, e16, hq⟩ := obI hq
                  have f16 := fO_tr f13 (f35_8_frG e16)
                  rcases bsp hq with ⟨-, hq⟩ | ⟨-, hq⟩
                  ·
                    exact fO_tr f16 (f51_60_10_l25_frG k hq)
                  ·
                    exact fO_tr f16 (f51_60_10_l25_frG k hq)
              ·
                rcases bsp hq with ⟨-, hq⟩ | ⟨-, hq⟩
                ·
                  exact fO_tr f13 (f51_60_10_l25_frG k hq)
                ·
                  obtain ⟨v19, I19, J19, e19, hq⟩ := obI hq
                  have f19 := fO_tr f13 (f35_8_frG e19)
                  rcases bsp hq with ⟨-, hq⟩ | ⟨-, hq⟩
                  ·
                    exact fO_tr f19 (f51_60_10_l25_frG k hq)
                  ·
                    exact fO_tr f19 (f51_60_10_l25_frG k hq)
          ·
            obtain ⟨v21, I21, J21, e21, hq⟩ := obI hq
            have f21 := fO_tr f5 (f53_60_frG e21)
            rcases bsp hq with ⟨-, hq⟩ | ⟨-, hq⟩
            ·
              exact fO_tr f21 (f51_60_10_l25_frG k hq)
            ·
              obtain ⟨v23, I23, J23, e23, hq⟩ := obI hq
              have f23 := fO_tr f21 (f35_8_frG e23)
              rcases bsp hq with ⟨-, hq⟩ | ⟨-, hq⟩
              ·
                exact fO_tr f23 (f51_60_10_l25_frG k hq)
              ·
                exact fO_tr f23 (f51_60_10_l25_frG k hq)
set_option maxRecDepth 100000 in
theorem f51_60_10_j113_frG {N : Nat} {I : tI} {J : tJ} {x3 : Int32} {v : Int32} {I1 : tI} {J1 : tJ} (hq : f51_60_10_j113 N I J x3 = some (v, I1, J1)) : frO qfIG qfJG I I1 J J1 := by
  unfold f51_60_10_j113 at hq
  have f0 : frO qfIG qfJG I I J J := fO_refl
  rcases bsp hq with ⟨-, hq⟩ | ⟨-, hq⟩
  ·
    cases hq
    exact (fO_I f0 rfl)
  ·
    rcases bsp hq with ⟨-, hq⟩ | ⟨-, hq⟩
    ·
      cases hq
      exact (fO_I f0 rfl)
    ·
      generalize e6 : f33_8 (tup I 61 0 1) J 2 = q6 at hq
      obtain ⟨v6, I6, J6⟩ := q6
      dsimp only at hq
      have f6 := fO_tr (fO_I f0 rfl) (f33_8_frG e6)
      rcases bsp hq with ⟨-, hq⟩ | ⟨-, hq⟩
      ·
        cases hq
        exact f6
      ·
        cases hq
        exact f6
set_option maxRecDepth 100000 in
theorem f51_60_10_frG {N : Nat} {I : tI} {J : tJ} {a0 : Int32} {v : Int32} {I1 : tI} {J1 : tJ} (hq : f51_60_10 N I J a0 = some (v, I1, J1)) : frO qfIG qfJG I I1 J J1 := by
  unfold f51_60_10 at hq
  have f0 : frO qfIG qfJG I I J J := fO_refl
  generalize e1 : f71_61 I J = q1 at hq
  obtain ⟨v1, I1, J1⟩ := q1
  dsimp only at hq
  have f1 := fO_tr f0 (f71_61_frG e1)
  obtain ⟨_, I2, J2, e2, hq⟩ := obU hq
  have f2 := fO_tr (fO_I f1 rfl) (f24_8_frG e2)
  cases e3 : f51_60_10_l25 N N I2 J2 1 0 with
  | none => rw [e3] at hq; cases hq
  | some Y =>
  obtain ⟨y3_3, y3_4, I3, J3⟩ := Y
  rw [e3] at hq
  dsimp only at hq
  have f3 := fO_tr f2 (f51_60_10_l25_frG N e3)
  exact fO_tr f3 (f51_60_10_j113_frG hq)
set_option maxRecDepth 100000 in
theorem f72_26_61_frG {I : tI} {J : tJ} {v : Unit} {I1 : tI} {J1 : tJ} (hq : f72_26_61 I J = (v, I1, J1)) : frO qfIG qfJG I I1 J J1 := by
  unfold f72_26_61 at hq
  have f0 : frO qfIG qfJG I I J J := fO_refl
  cases hq
  exact (fO_cI (fO_cI (fO_cI (fO_cI (fO_I (fO_I (fO_I f0 rfl) rfl) rfl) (fun _ => rfl)) (fun _ => rfl)) (fun _ => rfl)) (fun _ => rfl))
def qfIE : Nat → Nat → Bool := fun o k => !(Nat.beq o 185 && Nat.beq k 10)
def qfJE : Nat → Nat → Bool := fun _ _ => true
set_option maxRecDepth 100000 in
theorem f219_185_frE {I : tI} {J : tJ} {a0 : Int32} {v : Int32} {I1 : tI} {J1 : tJ} (hq : f219_185 I J a0 = (v, I1, J1)) : frO qfIE qfJE I I1 J J1 := by
  unfold f219_185 at hq
  have f0 : frO qfIE qfJE I I J J := fO_refl
  rcases bsp hq with ⟨-, hq⟩ | ⟨-, hq⟩
  ·
    cases hq
    exact f0
  ·
    cases hq
    exact f0
set_option maxRecDepth 100000 in
theorem f222_185_l0_frE {N : Nat} : ∀ (k : Nat) {I : tI} {J : tJ} {I1 : tI} {J1 : tJ}, f222_185_l0 N k I J = some (I1, J1) → frO qfIE qfJE I I1 J J1
  | 0, _, _, _, _, hq => by cases hq
  | k + 1, I, J, I1, J1, hq => by
    unfold f222_185_l0 at hq
    have f0 : frO qfIE qfJE I I J J := fO_refl
    generalize e1 : f219_185 I J (I 185 14) = q1 at hq
    obtain ⟨v1, I1, J1⟩ := q1
    dsimp only at hq
    have f1 := fO_tr f0 (f219_185_frE e1)
    rcases bsp hq with ⟨-, hq⟩ | ⟨-, hq⟩
    ·
      exact fO_tr (fO_I f1 rfl) (f222_185_l0_frE k hq)
    ·
      generalize e3 : f219_185 I1 J1 (I1 185 14) = q3 at hq
      obtain ⟨v3, I3, J3⟩ := q3
      dsimp only at hq
      have f3 := fO_tr f1 (f219_185_frE e3)
      rcases bsp hq with ⟨-, hq⟩ | ⟨-, hq⟩
      ·
        cases hq
        exact f3
      ·
        exact fO_tr (fO_I f3 rfl) (f222_185_l0_frE k hq)
set_option maxRecDepth 100000 in
theorem f220_frE {I : tI} {J : tJ} {a0 : Int32} {v : Int32} {I1 : tI} {J1 : tJ} (hq : f220 I J a0 = (v, I1, J1)) : frO qfIE qfJE I I1 J J1 := by
  unfold f220 at hq
  have f0 : frO qfIE qfJE I I J J := fO_refl
  rcases bsp hq with ⟨-, hq⟩ | ⟨-, hq⟩
  ·
    cases hq
    exact f0
  ·
    rcases bsp hq with ⟨-, hq⟩ | ⟨-, hq⟩
    ·
      cases hq
      exact f0
    ·
      cases hq
      exact f0
set_option maxRecDepth 100000 in
theorem f221_frE {I : tI} {J : tJ} {a0 : Int32} {v : Int32} {I1 : tI} {J1 : tJ} (hq : f221 I J a0 = (v, I1, J1)) : frO qfIE qfJE I I1 J J1 := by
  unfold f221 at hq
  have f0 : frO qfIE qfJE I I J J := fO_refl
  rcases bsp hq with ⟨-, hq⟩ | ⟨-, hq⟩
  ·
    cases hq
    exact f0
  ·
    rcases bsp hq with ⟨-, hq⟩ | ⟨-, hq⟩
    ·
      cases hq
      exact f0
    ·
      cases hq
      exact f0
set_option maxRecDepth 100000 in
theorem f222_185_l128_frE {N : Nat} : ∀ (k : Nat) {I : tI} {J : tJ} {I1 : tI} {J1 : tJ}, f222_185_l128 N k I J = some (I1, J1) → frO qfIE qfJE I I1 J J1
  | 0, _, _, _, _, hq => by cases hq
  | k + 1, I, J, I1, J1, hq => by
    unfold f222_185_l128 at hq
    have f0 : frO qfIE qfJE I I J J := fO_refl
    generalize e12 : f219_185 I J (I 185 14) = q12 at hq
    obtain ⟨v12, I12, J12⟩ := q12
    dsimp only at hq
    have f12 := fO_tr f0 (f219_185_frE e12)
    generalize e13 : f221 I12 J12 v12 = q13 at hq
    obtain ⟨v13, I13, J13⟩ := q13
    dsimp only at hq
    have f13 := fO_tr f12 (f221_frE e13)
    rcases bsp hq with ⟨-, hq⟩ | ⟨-, hq⟩
    ·
      cases hq
      exact f13
    ·
      generalize e15 : f219_185 I13 J13 (I13 185 14) = q15 at hq
      obtain ⟨v15, I15, J15⟩ := q15
      dsimp only at hq
      have f15 := fO_tr f13 (f219_185_frE e15)
      exact fO_tr (fO_I (fO_I f15 rfl) rfl) (f222_185_l128_frE k hq)
set_option maxRecDepth 100000 in
theorem f222_185_l81_frE {N : Nat} : ∀ (k : Nat) {I : tI} {J : tJ} {I1 : tI} {J1 : tJ}, f222_185_l81 N k I J = some (I1, J1) → frO qfIE qfJE I I1 J J1
  | 0, _, _, _, _, hq => by cases hq
  | k + 1, I, J, I1, J1, hq => by
    unfold f222_185_l81 at hq
    have f0 : frO qfIE qfJE I I J J := fO_refl
    generalize e14 : f219_185 I J (I 185 14) = q14 at hq
    obtain ⟨v14, I14, J14⟩ := q14
    dsimp only at hq
    have f14 := fO_tr f0 (f219_185_frE e14)
    generalize e15 : f220 I14 J14 v14 = q15 at hq
    obtain ⟨v15, I15, J15⟩ := q15
    dsimp only at hq
    have f15 := fO_tr f14 (f220_frE e15)
    rcases bsp hq with ⟨-, hq⟩ | ⟨-, hq⟩
    ·
      cases hq
      exact f15
    ·
      exact fO_tr (fO_I f15 rfl) (f222_185_l81_frE k hq)
set_option maxRecDepth 100000 in
theorem f222_185_frE {N : Nat} {I : tI} {J : tJ} {v : Unit} {I1 : tI} {J1 : tJ} (hq : f222_185 N I J = some (v, I1, J1)) : frO qfIE qfJE I I1 J J1 := by
  unfold f222_185 at hq
  have f0 : frO qfIE qfJE I I J J := fO_refl
  cases e1 : f222_185_l0 N N I J with
  | none => rw [e1] at hq; cases hq
  | some Y =>
  obtain ⟨I1, J1⟩ := Y
  rw [e1] at hq
  dsimp only at hq
  have f1 := fO_tr f0 (f222_185_l0_frE N e1)
  generalize e2 : f219_185 (tup I1 185 13 (I1 185 14)) J1 (I1 185 14) = q2 at hq
  obtain ⟨v2, I2, J2⟩ := q2
  dsimp only at hq
  have f2 := fO_tr (fO_I f1 rfl) (f219_185_frE e2)
  rcases bsp hq with ⟨-, hq⟩ | ⟨-, hq⟩
  ·
    generalize e4 : f220 (tup I2 185 15 v2) J2 v2 = q4 at hq
    obtain ⟨v4, I4, J4⟩ := q4
    dsimp only at hq
    have f4 := fO_tr (fO_I f2 rfl) (f220_frE e4)
    rcases bsp hq with ⟨-, hq⟩ | ⟨-, hq⟩
    ·
      generalize e6 : f221 I4 J4 v2 = q6 at hq
      obtain ⟨v6, I6, J6⟩ := q6
      dsimp only at hq
      have f6 := fO_tr f4 (f221_frE e6)
      rcases bsp hq with ⟨-, hq⟩ | ⟨-, hq⟩
      ·
        rcases bsp hq with ⟨-, hq⟩ | ⟨-, hq⟩
        ·
          cases hq
          exact (fO_I (fO_I f6 rfl) rfl)
        ·
          rcases bsp hq with ⟨-, hq⟩ | ⟨-, hq⟩
          ·
            cases hq
            exact (fO_I (fO_I f6 rfl) rfl)
          ·
            rcases bsp hq with ⟨-, hq⟩ | ⟨-, hq⟩
            ·
              cases hq
              exact (fO_I (fO_I f6 rfl) rfl)
            ·
              rcases bsp hq with ⟨-, hq⟩ | ⟨-, hq⟩
              ·
                cases hq
                exact (fO_I (fO_I f6 rfl) rfl)
              ·
                cases hq
                exact (fO_I (fO_I f6 rfl) rfl)
      ·
        cases e12 : f222_185_l128 N N (tup I6 185 15 0) J6 with
        | none => rw [e12] at hq; cases hq
        | some Y =>
        obtain ⟨I12, J12⟩ := Y
        rw [e12] at hq
        dsimp only at hq
        have f12 := fO_tr (fO_I f6 rfl) (f222_185_l128_frE N e12)
        rcases bsp hq with ⟨-, hq⟩ | ⟨-, hq⟩
        ·
          cases hq
          exact (fO_I f12 rfl)
        ·
          cases hq
          exact (fO_I f12 rfl)
    ·
      cases e14 : f222_185_l81 N N I4 J4 with
      | none => rw [e14] at hq; cases hq
      | some Y =>
      obtain ⟨I14, J14⟩ := Y
      rw [e14] at hq
      dsimp only at hq
      have f14 := fO_tr f4 (f222_185_l81_frE N e14)
      cases hq
      exact (fO_I f14 rfl)
  ·
    cases hq
    exact (fO_I (fO_I f2 rfl) rfl)
set_option maxRecDepth 100000 in
theorem f224_185_1002_l25_frE {N : Nat} : ∀ (k : Nat) {I : tI} {J : tJ} {x2 : Int32} {x3 : Int32} {x4 : Int32} {y2 : Int32} {y3 : Int32} {y4 : Int32} {I1 : tI} {J1 : tJ}, f224_185_1002_l25 N k I J x2 x3 x4 = some (y2, y3, y4, I1, J1) → frO qfIE qfJE I I1 J J1
  | 0, _, _, _, _, _, _, _, _, _, _, hq => by cases hq
  | k + 1, I, J, x2, x3, x4, y2, y3, y4, I1, J1, hq => by
    unfold f224_185_1002_l25 at hq
    have f0 : frO qfIE qfJE I I J J := fO_refl
    rcases bsp hq with ⟨-, hq⟩ | ⟨-, hq⟩
    ·
      cases hq
      exact f0
    ·
      exact fO_tr f0 (f224_185_1002_l25_frE k hq)
set_option maxRecDepth 100000 in
theorem f224_185_1002_l68_frE {N : Nat} : ∀ (k : Nat) {I : tI} {J : tJ} {x2 : Int32} {x3 : Int32} {x4 : Int32} {x5 : Int32} {x6 : Int32} {y2 : Int32} {y3 : Int32} {y4 : Int32} {y5 : Int32} {y6 : Int32} {I1 : tI} {J1 : tJ}, f224_185_1002_l68 N k I J x2 x3 x4 x5 x6 = some (y2, y3, y4, y5, y6, I1, J1) → frO qfIE qfJE I I1 J J1
  | 0, _, _, _, _, _, _, _, _, _, _, _, _, _, _, hq => by cases hq
  | k + 1, I, J, x2, x3, x4, x5, x6, y2, y3, y4, y5, y6, I1, J1, hq => by
    unfold f224_185_1002_l68 at hq
    have f0 : frO qfIE qfJE I I J J := fO_refl
    rcases bsp hq with ⟨-, hq⟩ | ⟨-, hq⟩
    ·
      cases hq
      exact f0
    ·
      rcases bsp hq with ⟨-, hq⟩ | ⟨-, hq⟩
      ·
        cases hq
        exact f0
      ·
        generalize e7 : f219_185 I J (((I 185 13) + x6) - x3) = q7 at hq
        obtain ⟨v7, I7, J7⟩ := q7
        dsimp only at hq
        have f7 := fO_tr f0 (f219_185_frE e7)
        rcases bsp hq with ⟨-, hq⟩ | ⟨-, hq⟩
        ·
          exact fO_tr f7 (f224_185_1002_l68_frE k hq)
        ·
          exact fO_tr f7 (f224_185_1002_l68_frE k hq)
set_option maxRecDepth 100000 in
theorem f224_185_1002_l14_frE {N : Nat} : ∀ (k : Nat) {I : tI} {J : tJ} {x2 : Int32} {x3 : Int32} {kx : Nat} {y2 : Int32} {y3 : Int32} {I1 : tI} {J1 : tJ}, f224_185_1002_l14 N k I J x2 x3 = some (kx, y2, y3, I1, J1) → frO qfIE qfJE I I1 J J1
  | 0, _, _, _, _, _, _, _, _, _, hq => by cases hq
  | k + 1, I, J, x2, x3, kx, y2, y3, I1, J1, hq => by
    unfold f224_185_1002_l14 at hq
    have f0 : frO qfIE qfJE I I J J := fO_refl
    rcases bsp hq with ⟨-, hq⟩ | ⟨-, hq⟩
    ·
      cases hq
      exact f0
    ·
      cases e3 : f224_185_1002_l25 N N I J x2 x3 x3 with
      | none => rw [e3] at hq; cases hq
      | some Y =>
      obtain ⟨y3_2, y3_3, y3_4, I3, J3⟩ := Y
      rw [e3] at hq
      dsimp only at hq
      have f3 := fO_tr f0 (f224_185_1002_l25_frE N e3)
      rcases bsp hq with ⟨-, hq⟩ | ⟨-, hq⟩
      ·
        cases e5 : f224_185_1002_l68 N N I3 J3 y3_2 y3_3 y3_4 0 y3_3 with
        | none => rw [e5] at hq; cases hq
        | some Y =>
        obtain ⟨y5_2, y5_3, y5_4, y5_5, y5_6, I5, J5⟩ := Y
        rw [e5] at hq
        dsimp only at hq
        have f5 := fO_tr f3 (f224_185_1002_l68_frE N e5)
        rcases bsp hq with ⟨-, hq⟩ | ⟨-, hq⟩
        ·
          exact fO_tr f5 (f224_185_1002_l14_frE k hq)
        ·
          cases hq
          exact f5
      ·
        cases e7 : f224_185_1002_l68 N N I3 J3 y3_2 y3_3 y3_4 1 y3_3 with
        | none => rw [e7] at hq; cases hq
        | some Y =>
        obtain ⟨y7_2, y7_3, y7_4, y7_5, y7_6, I7, J7⟩ := Y
        rw [e7] at hq
        dsimp only at hq
        have f7 := fO_tr f3 (f224_185_1002_l68_frE N e7)
        rcases bsp hq with ⟨-, hq⟩ | ⟨-, hq⟩
        ·
          exact fO_tr f7 (f224_185_1002_l14_frE k hq)
        ·
          cases hq
          exact f7
set_option maxRecDepth 100000 in
theorem f224_185_1002_frE {N : Nat} {I : tI} {J : tJ} {v : Int32} {I1 : tI} {J1 : tJ} (hq : f224_185_1002 N I J = some (v, I1, J1)) : frO qfIE qfJE I I1 J J1 := by
  unfold f224_185_1002 at hq
  have f0 : frO qfIE qfJE I I J J := fO_refl
  rcases bsp hq with ⟨-, hq⟩ | ⟨-, hq⟩
  ·
    cases e2 : f224_185_1002_l14 N N I J 0 1 with
    | none => rw [e2] at hq; cases hq
    | some Y =>
    obtain ⟨k2, y2_2, y2_3, I2, J2⟩ := Y
    rw [e2] at hq
    dsimp only at hq
    have f2 := fO_tr f0 (f224_185_1002_l14_frE N e2)
    rcases bsp hq with ⟨-, hq⟩ | ⟨-, hq⟩
    ·
      cases hq
      exact f2
    ·
      cases hq
      exact f2
  ·
    cases hq
    exact f0
set_option maxRecDepth 100000 in
theorem f225_185_frE {I : tI} {J : tJ} {a0 : Int32} {v : Int32} {I1 : tI} {J1 : tJ} (hq : f225_185 I J a0 = (v, I1, J1)) : frO qfIE qfJE I I1 J J1 := by
  unfold f225_185 at hq
  have f0 : frO qfIE qfJE I I J J := fO_refl
  rcases bsp hq with ⟨-, hq⟩ | ⟨-, hq⟩
  ·
    cases hq
    exact f0
  ·
    rcases bsp hq with ⟨-, hq⟩ | ⟨-, hq⟩
    ·
      cases hq
      exact (fO_I (fO_I f0 rfl) rfl)
    ·
      cases hq
      exact (fO_I (fO_I f0 rfl) rfl)
set_option maxRecDepth 100000 in
theorem f229_185_frE {N : Nat} {I : tI} {J : tJ} {a0 : Int32} {a1 : Int32} {a2 : Int32} {v : Int32} {I1 : tI} {J1 : tJ} (hq : f229_185 N I J a0 a1 a2 = some (v, I1, J1)) : frO qfIE qfJE I I1 J J1 := by
  unfold f229_185 at hq
  have f0 : frO qfIE qfJE I I J J := fO_refl
  rcases bsp hq with ⟨-, hq⟩ | ⟨-, hq⟩
  ·
    rcases bsp hq with ⟨-, hq⟩ | ⟨-, hq⟩
    ·
      generalize e3 : f225_185 I J 4 = q3 at hq
      obtain ⟨v3, I3, J3⟩ := q3
      dsimp only at hq
      have f3 := fO_tr f0 (f225_185_frE e3)
      cases hq
      exact f3
    ·
      rcases bsp hq with ⟨-, hq⟩ | ⟨-, hq⟩
      ·
        obtain ⟨_, I5, J5, e5, hq⟩ := obU hq
        have f5 := fO_tr (fO_I f0 rfl) (f222_185_frE e5)
        cases hq
        exact f5
      ·
        generalize e6 : f225_185 I J 4 = q6 at hq
        obtain ⟨v6, I6, J6⟩ := q6
        dsimp only at hq
        have f6 := fO_tr f0 (f225_185_frE e6)
        cases hq
        exact f6
  ·
    generalize e7 : f225_185 I J 2 = q7 at hq
    obtain ⟨v7, I7, J7⟩ := q7
    dsimp only at hq
    have f7 := fO_tr f0 (f225_185_frE e7)
    cases hq
    exact f7
set_option maxRecDepth 100000 in
theorem f223_185_frE {I : tI} {J : tJ} {a0 : Int32} {v : Int32} {I1 : tI} {J1 : tJ} (hq : f223_185 I J a0 = (v, I1, J1)) : frO qfIE qfJE I I1 J J1 := by
  unfold f223_185 at hq
  have f0 : frO qfIE qfJE I I J J := fO_refl
  rcases bsp hq with ⟨-, hq⟩ | ⟨-, hq⟩
  ·
    cases hq
    exact f0
  ·
    rcases bsp hq with ⟨-, hq⟩ | ⟨-, hq⟩
    ·
      cases hq
      exact f0
    ·
      cases hq
      exact f0
set_option maxRecDepth 100000 in
theorem f227_185_frE {N : Nat} {I : tI} {J : tJ} {a0 : Int32} {v : Int32} {I1 : tI} {J1 : tJ} (hq : f227_185 N I J a0 = some (v, I1, J1)) : frO qfIE qfJE I I1 J J1 := by
  unfold f227_185 at hq
  have f0 : frO qfIE qfJE I I J J := fO_refl
  generalize e1 : f223_185 I J a0 = q1 at hq
  obtain ⟨v1, I1, J1⟩ := q1
  dsimp only at hq
  have f1 := fO_tr f0 (f223_185_frE e1)
  rcases bsp hq with ⟨-, hq⟩ | ⟨-, hq⟩
  ·
    obtain ⟨_, I3, J3, e3, hq⟩ := obU hq
    have f3 := fO_tr f1 (f222_185_frE e3)
    cases hq
    exact f3
  ·
    generalize e4 : f225_185 I1 J1 2 = q4 at hq
    obtain ⟨v4, I4, J4⟩ := q4
    dsimp only at hq
    have f4 := fO_tr f1 (f225_185_frE e4)
    cases hq
    exact f4
set_option maxRecDepth 100000 in
theorem f230_185_1002_frE {N : Nat} {I : tI} {J : tJ} {v : Int32} {I1 : tI} {J1 : tJ} (hq : f230_185_1002 N I J = some (v, I1, J1)) : frO qfIE qfJE I I1 J J1 := by
  unfold f230_185_1002 at hq
  have f0 : frO qfIE qfJE I I J J := fO_refl
  rcases bsp hq with ⟨-, hq⟩ | ⟨-, hq⟩
  ·
    cases hq
    exact f0
  ·
    rcases bsp hq with ⟨-, hq⟩ | ⟨-, hq⟩
    ·
      cases hq
      exact f0
    ·
      obtain ⟨v3, I3, J3, e3, hq⟩ := obI hq
      have f3 := fO_tr f0 (f224_185_1002_frE e3)
      rcases bsp hq with ⟨-, hq⟩ | ⟨-, hq⟩
      ·
        cases hq
        exact f3
      ·
        cases hq
        exact f3
set_option maxRecDepth 100000 in
theorem f231_185_l7_frE {N : Nat} : ∀ (k : Nat) {I : tI} {J : tJ} {x1 : Int64} {x3 : Int32} {y1 : Int64} {y3 : Int32} {I1 : tI} {J1 : tJ}, f231_185_l7 N k I J x1 x3 = some (y1, y3, I1, J1) → frO qfIE qfJE I I1 J J1
  | 0, _, _, _, _, _, _, _, _, hq => by cases hq
  | k + 1, I, J, x1, x3, y1, y3, I1, J1, hq => by
    unfold f231_185_l7 at hq
    have f0 : frO qfIE qfJE I I J J := fO_refl
    rcases bsp hq with ⟨-, hq⟩ | ⟨-, hq⟩
    ·
      cases hq
      exact f0
    ·
      generalize e2 : f219_185 I J x3 = q2 at hq
      obtain ⟨v2, I2, J2⟩ := q2
      dsimp only at hq
      have f2 := fO_tr f0 (f219_185_frE e2)
      exact fO_tr f2 (f231_185_l7_frE k hq)
set_option maxRecDepth 100000 in
theorem f231_185_frE {N : Nat} {I : tI} {J : tJ} {v : Int64} {I1 : tI} {J1 : tJ} (hq : f231_185 N I J = some (v, I1, J1)) : frO qfIE qfJE I I1 J J1 := by
  unfold f231_185 at hq
  have f0 : frO qfIE qfJE I I J J := fO_refl
  cases e1 : f231_185_l7 N N I J 0 (I 185 13) with
  | none => rw [e1] at hq; cases hq
  | some Y =>
  obtain ⟨y1_1, y1_3, I1, J1⟩ := Y
  rw [e1] at hq
  dsimp only at hq
  have f1 := fO_tr f0 (f231_185_l7_frE N e1)
  cases hq
  exact f1
set_option maxRecDepth 100000 in
theorem f232_185_l2_frE {N : Nat} : ∀ (k : Nat) {I : tI} {J : tJ} {x1 : Int32} {x2 : Int32} {x3 : Int32} {kx : Nat} {y1 : Int32} {y2 : Int32} {y3 : Int32} {I1 : tI} {J1 : tJ}, f232_185_l2 N k I J x1 x2 x3 = some (kx, y1, y2, y3, I1, J1) → frO qfIE qfJE I I1 J J1
  | 0, _, _, _, _, _, _, _, _, _, _, _, hq => by cases hq
  | k + 1, I, J, x1, x2, x3, kx, y1, y2, y3, I1, J1, hq => by
    unfold f232_185_l2 at hq
    have f0 : frO qfIE qfJE I I J J := fO_refl
    rcases bsp hq with ⟨-, hq⟩ | ⟨-, hq⟩
    ·
      cases hq
      exact f0
    ·
      obtain ⟨v2, I2, J2, e2, hq⟩ := obL hq
      have f2 := fO_tr f0 (f231_185_frE e2)
      rcases bsp hq with ⟨-, hq⟩ | ⟨-, hq⟩
      ·
        exact fO_tr f2 (f232_185_l2_frE k hq)
      ·
        cases hq
        exact f2
set_option maxRecDepth 100000 in
theorem f232_185_frE {N : Nat} {I : tI} {J : tJ} {a0 : Int32} {a1 : Int32} {v : Int32} {I1 : tI} {J1 : tJ} (hq : f232_185 N I J a0 a1 = some (v, I1, J1)) : frO qfIE qfJE I I1 J J1 := by
  unfold f232_185 at hq
  have f0 : frO qfIE qfJE I I J J := fO_refl
  cases e1 : f232_185_l2 N N I J a0 a1 0 with
  | none => rw [e1] at hq; cases hq
  | some Y =>
  obtain ⟨k1, y1_1, y1_2, y1_3, I1, J1⟩ := Y
  rw [e1] at hq
  dsimp only at hq
  have f1 := fO_tr f0 (f232_185_l2_frE N e1)
  rcases bsp hq with ⟨-, hq⟩ | ⟨-, hq⟩
  ·
    cases hq
    exact f1
  ·
    cases hq
    exact f1
set_option maxRecDepth 100000 in
theorem f206_185_frE {I : tI} {J : tJ} {a0 : Int32} {v : Int32} {I1 : tI} {J1 : tJ} (hq : f206_185 I J a0 = (v, I1, J1)) : frO qfIE qfJE I I1 J J1 := by
  unfold f206_185 at hq
  have f0 : frO qfIE qfJE I I J J := fO_refl
  cases hq
  exact (fO_I f0 rfl)
set_option maxRecDepth 100000 in
theorem f205_185_frE {I : tI} {J : tJ} {a0 : Int32} {v : Int32} {I1 : tI} {J1 : tJ} (hq : f205_185 I J a0 = (v, I1, J1)) : frO qfIE qfJE I I1 J J1 := by
  unfold f205_185 at hq
  have f0 : frO qfIE qfJE I I J J := fO_refl
  cases hq
  exact (fO_I f0 rfl)
set_option maxRecDepth 100000 in
theorem f234_185_frE {I : tI} {J : tJ} {a0 : Int32} {v : Int32} {I1 : tI} {J1 : tJ} (hq : f234_185 I J a0 = (v, I1, J1)) : frO qfIE qfJE I I1 J J1 := by
  unfold f234_185 at hq
  have f0 : frO qfIE qfJE I I J J := fO_refl
  rcases bsp hq with ⟨-, hq⟩ | ⟨-, hq⟩
  ·
    generalize e2 : f206_185 (tup I 185 16 (I 185 18)) J a0 = q2 at hq
    obtain ⟨v2, I2, J2⟩ := q2
    dsimp only at hq
    have f2 := fO_tr (fO_I f0 rfl) (f206_185_frE e2)
    cases hq
    exact f2
  ·
    generalize e3 : f205_185 (tup I 185 16 (I 185 18)) J 9 = q3 at hq
    obtain ⟨v3, I3, J3⟩ := q3
    dsimp only at hq
    have f3 := fO_tr (fO_I f0 rfl) (f205_185_frE e3)
    cases hq
    exact f3
set_option maxRecDepth 100000 in
theorem f249_185_l147_frE {N : Nat} : ∀ (k : Nat) {I : tI} {J : tJ} {x1 : Int32} {x2 : Int32} {x3 : Int32} {x4 : Int32} {x5 : Int32} {y1 : Int32} {y2 : Int32} {y3 : Int32} {y4 : Int32} {y5 : Int32} {I1 : tI} {J1 : tJ}, f249_185_l147 N k I J x1 x2 x3 x4 x5 = some (y1, y2, y3, y4, y5, I1, J1) → frO qfIE qfJE I I1 J J1
  | 0, _, _, _, _, _, _, _, _, _, _, _, _, _, _, hq => by cases hq
  | k + 1, I, J, x1, x2, x3, x4, x5, y1, y2, y3, y4, y5, I1, J1, hq => by
    unfold f249_185_l147 at hq
    have f0 : frO qfIE qfJE I I J J := fO_refl
    rcases bsp hq with ⟨-, hq⟩ | ⟨-, hq⟩
    ·
      cases hq
      exact f0
    ·
      exact fO_tr (fO_I f0 rfl) (f249_185_l147_frE k hq)
set_option maxRecDepth 100000 in
theorem f245_185_frE {N : Nat} {I : tI} {J : tJ} {a0 : Int32} {a1 : Int32} {a2 : Int32} {v : Int32} {I1 : tI} {J1 : tJ} (hq : f245_185 N I J a0 a1 a2 = some (v, I1, J1)) : frO qfIE qfJE I I1 J J1 := by
  unfold f245_185 at hq
  have f0 : frO qfIE qfJE I I J J := fO_refl
  obtain ⟨v1, I1, J1, e1, hq⟩ := obI hq
  have f1 := fO_tr f0 (f230_185_1002_frE e1)
  rcases bsp hq with ⟨-, hq⟩ | ⟨-, hq⟩
  ·
    obtain ⟨v3, I3, J3, e3, hq⟩ := obI hq
    have f3 := fO_tr f1 (f232_185_frE e3)
    rcases bsp hq with ⟨-, hq⟩ | ⟨-, hq⟩
    ·
      obtain ⟨_, I5, J5, e5, hq⟩ := obU hq
      have f5 := fO_tr (fO_I f3 rfl) (f222_185_frE e5)
      cases hq
      exact f5
    ·
      generalize e6 : f225_185 (tup I3 186 ((a2).toNatClampNeg) v3) J3 3 = q6 at hq
      obtain ⟨v6, I6, J6⟩ := q6
      dsimp only at hq
      have f6 := fO_tr (fO_I f3 rfl) (f225_185_frE e6)
      cases hq
      exact f6
  ·
    generalize e7 : f225_185 I1 J1 2 = q7 at hq
    obtain ⟨v7, I7, J7⟩ := q7
    dsimp only at hq
    have f7 := fO_tr f1 (f225_185_frE e7)
    cases hq
    exact f7
set_option maxRecDepth 100000 in
theorem f246_185_frE {N : Nat} {I : tI} {J : tJ} {a0 : Int32} {v : Int32} {I1 : tI} {J1 : tJ} (hq : f246_185 N I J a0 = some (v, I1, J1)) : frO qfIE qfJE I I1 J J1 := by
  unfold f246_185 at hq
  have f0 : frO qfIE qfJE I I J J := fO_refl
  obtain ⟨v1, I1, J1, e1, hq⟩ := obI hq
  have f1 := fO_tr f0 (f245_185_frE e1)
  cases hq
  exact f1
set_option maxRecDepth 100000 in
theorem f247_185_j133_frE {N : Nat} {I : tI} {J : tJ} {x1 : Int32} {v : Int32} {I1 : tI} {J1 : tJ} (hq : f247_185_j133 N I J x1 = some (v, I1, J1)) : frO qfIE qfJE I I1 J J1 := by
  unfold f247_185_j133 at hq
  have f0 : frO qfIE qfJE I I J J := fO_refl
  obtain ⟨_, I10, J10, e10, hq⟩ := obU hq
  have f10 := fO_tr (fO_I f0 rfl) (f222_185_frE e10)
  obtain ⟨v11, I11, J11, e11, hq⟩ := obI hq
  have f11 := fO_tr f10 (f229_185_frE e11)
  cases hq
  exact f11
set_option maxRecDepth 100000 in
theorem f247_185_j31_frE {N : Nat} {I : tI} {J : tJ} {x1 : Int32} {x2 : Int32} {v : Int32} {I1 : tI} {J1 : tJ} (hq : f247_185_j31 N I J x1 x2 = some (v, I1, J1)) : frO qfIE qfJE I I1 J J1 := by
  unfold f247_185_j31 at hq
  have f0 : frO qfIE qfJE I I J J := fO_refl
  obtain ⟨_, I3, J3, e3, hq⟩ := obU hq
  have f3 := fO_tr (fO_I f0 rfl) (f222_185_frE e3)
  rcases bsp hq with ⟨-, hq⟩ | ⟨-, hq⟩
  ·
    rcases bsp hq with ⟨-, hq⟩ | ⟨-, hq⟩
    ·
      obtain ⟨v6, I6, J6, e6, hq⟩ := obI hq
      have f6 := fO_tr f3 (f246_185_frE e6)
      rcases bsp hq with ⟨-, hq⟩ | ⟨-, hq⟩
      ·
        generalize e8 : f223_185 I6 J6 60 = q8 at hq
        obtain ⟨v8, I8, J8⟩ := q8
        dsimp only at hq
        have f8 := fO_tr f6 (f223_185_frE e8)
        rcases bsp hq with ⟨-, hq⟩ | ⟨-, hq⟩
        ·
          exact fO_tr f8 (f247_185_j133_frE hq)
        ·
          generalize e10 : f223_185 I8 J8 62 = q10 at hq
          obtain ⟨v10, I10, J10⟩ := q10
          dsimp only at hq
          have f10 := fO_tr f8 (f223_185_frE e10)
          rcases bsp hq with ⟨-, hq⟩ | ⟨-, hq⟩
          ·
            exact fO_tr f10 (f247_185_j133_frE hq)
          ·
            generalize e12 : f223_185 I10 J10 61 = q12 at hq
            obtain ⟨v12, I12, J12⟩ := q12
            dsimp only at hq
            have f12 := fO_tr f10 (f223_185_frE e12)
            rcases bsp hq with ⟨-, hq⟩ | ⟨-, hq⟩
            ·
              exact fO_tr f12 (f247_185_j133_frE hq)
            ·
              generalize e14 : f225_185 I12 J12 2 = q14 at hq
              obtain ⟨v14, I14, J14⟩ := q14
              dsimp only at hq
              have f14 := fO_tr f12 (f225_185_frE e14)
              cases hq
              exact f14
      ·
        cases hq
        exact f6
    ·
      obtain ⟨v15, I15, J15, e15, hq⟩ := obI hq
      have f15 := fO_tr f3 (f245_185_frE e15)
      cases hq
      exact f15
  ·
    obtain ⟨v16, I16, J16, e16, hq⟩ := obI hq
    have f16 := fO_tr f3 (f245_185_frE e16)
    cases hq
    exact f16
set_option maxRecDepth 100000 in
theorem f247_185_frE {N : Nat} {I : tI} {J : tJ} {a0 : Int32} {v : Int32} {I1 : tI} {J1 : tJ} (hq : f247_185 N I J a0 = some (v, I1, J1)) : frO qfIE qfJE I I1 J J1 := by
  unfold f247_185 at hq
  have f0 : frO qfIE qfJE I I J J := fO_refl
  obtain ⟨v1, I1, J1, e1, hq⟩ := obI hq
  have f1 := fO_tr f0 (f224_185_1002_frE e1)
  rcases bsp hq with ⟨-, hq⟩ | ⟨-, hq⟩
  ·
    exact fO_tr f1 (f247_185_j31_frE hq)
  ·
    rcases bsp hq with ⟨-, hq⟩ | ⟨-, hq⟩
    ·
      exact fO_tr f1 (f247_185_j31_frE hq)
    ·
      rcases bsp hq with ⟨-, hq⟩ | ⟨-, hq⟩
      ·
        exact fO_tr f1 (f247_185_j31_frE hq)
      ·
        generalize e5 : f225_185 I1 J1 2 = q5 at hq
        obtain ⟨v5, I5, J5⟩ := q5
        dsimp only at hq
        have f5 := fO_tr f1 (f225_185_frE e5)
        cases hq
        exact f5
set_option maxRecDepth 100000 in
theorem f248_185_frE {N : Nat} {I : tI} {J : tJ} {a0 : Int32} {a1 : Int32} {v : Int32} {I1 : tI} {J1 : tJ} (hq : f248_185 N I J a0 a1 = some (v, I1, J1)) : frO qfIE qfJE I I1 J J1 := by
  unfold f248_185 at hq
  have f0 : frO qfIE qfJE I I J J := fO_refl
  rcases bsp hq with ⟨-, hq⟩ | ⟨-, hq⟩
  ·
    obtain ⟨v2, I2, J2, e2, hq⟩ := obI hq
    have f2 := fO_tr f0 (f246_185_frE e2)
    rcases bsp hq with ⟨-, hq⟩ | ⟨-, hq⟩
    ·
      cases hq
      exact f2
    ·
      obtain ⟨v4, I4, J4, e4, hq⟩ := obI hq
      have f4 := fO_tr f2 (f229_185_frE e4)
      rcases bsp hq with ⟨-, hq⟩ | ⟨-, hq⟩
      ·
        cases hq
        exact f4
      ·
        cases hq
        exact f4
  ·
    rcases bsp hq with ⟨-, hq⟩ | ⟨-, hq⟩
    ·
      obtain ⟨v7, I7, J7, e7, hq⟩ := obI hq
      have f7 := fO_tr f0 (f229_185_frE e7)
      cases hq
      exact f7
    ·
      rcases bsp hq with ⟨-, hq⟩ | ⟨-, hq⟩
      ·
        obtain ⟨v9, I9, J9, e9, hq⟩ := obI hq
        have f9 := fO_tr f0 (f246_185_frE e9)
        rcases bsp hq with ⟨-, hq⟩ | ⟨-, hq⟩
        ·
          cases hq
          exact f9
        ·
          obtain ⟨v11, I11, J11, e11, hq⟩ := obI hq
          have f11 := fO_tr f9 (f246_185_frE e11)
          rcases bsp hq with ⟨-, hq⟩ | ⟨-, hq⟩
          ·
            cases hq
            exact f11
          ·
            cases hq
            exact f11
      ·
        rcases bsp hq with ⟨-, hq⟩ | ⟨-, hq⟩
        ·
          obtain ⟨v14, I14, J14, e14, hq⟩ := obI hq
          have f14 := fO_tr f0 (f247_185_frE e14)
          cases hq
          exact f14
        ·
          rcases bsp hq with ⟨-, hq⟩ | ⟨-, hq⟩
          ·
            obtain ⟨v16, I16, J16, e16, hq⟩ := obI hq
            have f16 := fO_tr f0 (f229_185_frE e16)
            cases hq
            exact f16
          ·
            cases hq
            exact f0
set_option maxRecDepth 100000 in
theorem f249_185_j222_frE {N : Nat} {I : tI} {J : tJ} {x1 : Int32} {x2 : Int32} {x3 : Int32} {v : Int32} {I1 : tI} {J1 : tJ} (hq : f249_185_j222 N I J x1 x2 x3 = some (v, I1, J1)) : frO qfIE qfJE I I1 J J1 := by
  unfold f249_185_j222 at hq
  have f0 : frO qfIE qfJE I I J J := fO_refl
  rcases bsp hq with ⟨-, hq⟩ | ⟨-, hq⟩
  ·
    obtain ⟨v17, I17, J17, e17, hq⟩ := obI hq
    have f17 := fO_tr f0 (f227_185_frE e17)
    cases hq
    exact f17
  ·
    obtain ⟨v18, I18, J18, e18, hq⟩ := obI hq
    have f18 := fO_tr (fO_I (fO_I (fO_I f0 rfl) rfl) rfl) (f227_185_frE e18)
    cases hq
    exact f18
set_option maxRecDepth 100000 in
theorem f249_185_j117_frE {N : Nat} {I : tI} {J : tJ} {x1 : Int32} {x2 : Int32} {x3 : Int32} {x4 : Int32} {v : Int32} {I1 : tI} {J1 : tJ} (hq : f249_185_j117 N I J x1 x2 x3 x4 = some (v, I1, J1)) : frO qfIE qfJE I I1 J J1 := by
  unfold f249_185_j117 at hq
  have f0 : frO qfIE qfJE I I J J := fO_refl
  rcases bsp hq with ⟨-, hq⟩ | ⟨-, hq⟩
  ·
    cases e11 : f249_185_l147 N N (tup (tup I 185 23 ((I 185 23) + 1)) 186 ((x3).toNatClampNeg) x1) J x1 x2 x3 x4 1 with
    | none => rw [e11] at hq; cases hq
    | some Y =>
    obtain ⟨y11_1, y11_2, y11_3, y11_4, y11_5, I11, J11⟩ := Y
    rw [e11] at hq
    dsimp only at hq
    have f11 := fO_tr (fO_I (fO_I f0 rfl) rfl) (f249_185_l147_frE N e11)
    obtain ⟨_, I12, J12, e12, hq⟩ := obU hq
    have f12 := fO_tr (fO_I f11 rfl) (f222_185_frE e12)
    obtain ⟨v13, I13, J13, e13, hq⟩ := obI hq
    have f13 := fO_tr f12 (f248_185_frE e13)
    rcases bsp hq with ⟨-, hq⟩ | ⟨-, hq⟩
    ·
      rcases bsp hq with ⟨-, hq⟩ | ⟨-, hq⟩
      ·
        exact fO_tr f13 (f249_185_j222_frE hq)
      ·
        exact fO_tr (fO_I (fO_I f13 rfl) rfl) (f249_185_j222_frE hq)
    ·
      cases hq
      exact f13
  ·
    cases e16 : f249_185_l147 N N (tup (tup I 185 23 ((I 185 23) + 0)) 186 ((x3).toNatClampNeg) x1) J x1 x2 x3 x4 1 with
    | none => rw [e16] at hq; cases hq
    | some Y =>
    obtain ⟨y16_1, y16_2, y16_3, y16_4, y16_5, I16, J16⟩ := Y
    rw [e16] at hq
    dsimp only at hq
    have f16 := fO_tr (fO_I (fO_I f0 rfl) rfl) (f249_185_l147_frE N e16)
    obtain ⟨_, I17, J17, e17, hq⟩ := obU hq
    have f17 := fO_tr (fO_I f16 rfl) (f222_185_frE e17)
    obtain ⟨v18, I18, J18, e18, hq⟩ := obI hq
    have f18 := fO_tr f17 (f248_185_frE e18)
    rcases bsp hq with ⟨-, hq⟩ | ⟨-, hq⟩
    ·
      rcases bsp hq with ⟨-, hq⟩ | ⟨-, hq⟩
      ·
        exact fO_tr f18 (f249_185_j222_frE hq)
      ·
        exact fO_tr (fO_I (fO_I f18 rfl) rfl) (f249_185_j222_frE hq)
    ·
      cases hq
      exact f18
set_option maxRecDepth 100000 in
theorem f249_185_j97_frE {N : Nat} {I : tI} {J : tJ} {x1 : Int32} {x2 : Int32} {x3 : Int32} {x4 : Int32} {v : Int32} {I1 : tI} {J1 : tJ} (hq : f249_185_j97 N I J x1 x2 x3 x4 = some (v, I1, J1)) : frO qfIE qfJE I I1 J J1 := by
  unfold f249_185_j97 at hq
  have f0 : frO qfIE qfJE I I J J := fO_refl
  rcases bsp hq with ⟨-, hq⟩ | ⟨-, hq⟩
  ·
    exact fO_tr f0 (f249_185_j117_frE hq)
  ·
    rcases bsp hq with ⟨-, hq⟩ | ⟨-, hq⟩
    ·
      exact fO_tr f0 (f249_185_j117_frE hq)
    ·
      generalize e11 : f225_185 I J 7 = q11 at hq
      obtain ⟨v11, I11, J11⟩ := q11
      dsimp only at hq
      have f11 := fO_tr f0 (f225_185_frE e11)
      cases hq
      exact f11
set_option maxRecDepth 100000 in
theorem f249_185_j75_frE {N : Nat} {I : tI} {J : tJ} {x1 : Int32} {x2 : Int32} {x3 : Int32} {x4 : Int32} {v : Int32} {I1 : tI} {J1 : tJ} (hq : f249_185_j75 N I J x1 x2 x3 x4 = some (v, I1, J1)) : frO qfIE qfJE I I1 J J1 := by
  unfold f249_185_j75 at hq
  have f0 : frO qfIE qfJE I I J J := fO_refl
  rcases bsp hq with ⟨-, hq⟩ | ⟨-, hq⟩
  ·
    exact fO_tr f0 (f249_185_j97_frE hq)
  ·
    rcases bsp hq with ⟨-, hq⟩ | ⟨-, hq⟩
    ·
      exact fO_tr f0 (f249_185_j97_frE hq)
    ·
      generalize e10 : f225_185 I J 6 = q10 at hq
      obtain ⟨v10, I10, J10⟩ := q10
      dsimp only at hq
      have f10 := fO_tr f0 (f225_185_frE e10)
      cases hq
      exact f10
set_option maxRecDepth 100000 in
theorem f249_185_j42_frE {N : Nat} {I : tI} {J : tJ} {x1 : Int32} {x2 : Int32} {x3 : Int32} {s0 : Int32} {v : Int32} {I1 : tI} {J1 : tJ} (hq : f249_185_j42 N I J x1 x2 x3 s0 = some (v, I1, J1)) : frO qfIE qfJE I I1 J J1 := by
  unfold f249_185_j42 at hq
  have f0 : frO qfIE qfJE I I J J := fO_refl
  rcases bsp hq with ⟨-, hq⟩ | ⟨-, hq⟩
  ·
    generalize e4 : f225_185 I J 2 = q4 at hq
    obtain ⟨v4, I4, J4⟩ := q4
    dsimp only at hq
    have f4 := fO_tr f0 (f225_185_frE e4)
    cases hq
    exact f4
  ·
    rcases bsp hq with ⟨-, hq⟩ | ⟨-, hq⟩
    ·
      generalize e6 : f225_185 I J 2 = q6 at hq
      obtain ⟨v6, I6, J6⟩ := q6
      dsimp only at hq
      have f6 := fO_tr f0 (f225_185_frE e6)
      cases hq
      exact f6
    ·
      rcases bsp hq with ⟨-, hq⟩ | ⟨-, hq⟩
      ·
        exact fO_tr f0 (f249_185_j75_frE hq)
      ·
        rcases bsp hq with ⟨-, hq⟩ | ⟨-, hq⟩
        ·
          exact fO_tr f0 (f249_185_j75_frE hq)
        ·
          generalize e9 : f225_185 I J 2 = q9 at hq
          obtain ⟨v9, I9, J9⟩ := q9
          dsimp only at hq
          have f9 := fO_tr f0 (f225_185_frE e9)
          cases hq
          exact f9
set_option maxRecDepth 100000 in
theorem f249_185_j37_frE {N : Nat} {I : tI} {J : tJ} {x1 : Int32} {x2 : Int32} {x3 : Int32} {v : Int32} {I1 : tI} {J1 : tJ} (hq : f249_185_j37 N I J x1 x2 x3 = some (v, I1, J1)) : frO qfIE qfJE I I1 J J1 := by
  unfold f249_185_j37 at hq
  have f0 : frO qfIE qfJE I I J J := fO_refl
  exact fO_tr f0 (f249_185_j42_frE hq)
set_option maxRecDepth 100000 in
theorem f249_185_frE {N : Nat} {I : tI} {J : tJ} {v : Int32} {I1 : tI} {J1 : tJ} (hq : f249_185 N I J = some (v, I1, J1)) : frO qfIE qfJE I I1 J J1 := by
  unfold f249_185 at hq
  have f0 : frO qfIE qfJE I I J J := fO_refl
  obtain ⟨v1, I1, J1, e1, hq⟩ := obI hq
  have f1 := fO_tr f0 (f224_185_1002_frE e1)
  rcases bsp hq with ⟨-, hq⟩ | ⟨-, hq⟩
  ·
    exact fO_tr f1 (f249_185_j37_frE hq)
  ·
    rcases bsp hq with ⟨-, hq⟩ | ⟨-, hq⟩
    ·
      exact fO_tr f1 (f249_185_j42_frE hq)
    ·
      exact fO_tr f1 (f249_185_j37_frE hq)
set_option maxRecDepth 100000 in
theorem f250_185_l38_frE {N : Nat} : ∀ (k : Nat) {I : tI} {J : tJ} {x2 : Int32} {y2 : Int32} {I1 : tI} {J1 : tJ}, f250_185_l38 N k I J x2 = some (y2, I1, J1) → frO qfIE qfJE I I1 J J1
  | 0, _, _, _, _, _, _, hq => by cases hq
  | k + 1, I, J, x2, y2, I1, J1, hq => by
    unfold f250_185_l38 at hq
    have f0 : frO qfIE qfJE I I J J := fO_refl
    rcases bsp hq with ⟨-, hq⟩ | ⟨-, hq⟩
    ·
      cases hq
      exact f0
    ·
      rcases bsp hq with ⟨-, hq⟩ | ⟨-, hq⟩
      ·
        cases hq
        exact f0
      ·
        obtain ⟨v5, I5, J5, e5, hq⟩ := obI hq
        have f5 := fO_tr f0 (f249_185_frE e5)
        exact fO_tr f5 (f250_185_l38_frE k hq)
set_option maxRecDepth 100000 in
theorem f250_185_l103_frE {N : Nat} : ∀ (k : Nat) {I : tI} {J : tJ} {x3 : Int32} {y3 : Int32} {I1 : tI} {J1 : tJ}, f250_185_l103 N k I J x3 = some (y3, I1, J1) → frO qfIE qfJE I I1 J J1
  | 0, _, _, _, _, _, _, hq => by cases hq
  | k + 1, I, J, x3, y3, I1, J1, hq => by
    unfold f250_185_l103 at hq
    have f0 : frO qfIE qfJE I I J J := fO_refl
    rcases bsp hq with ⟨-, hq⟩ | ⟨-, hq⟩
    ·
      cases hq
      exact f0
    ·
      exact fO_tr (fO_I f0 rfl) (f250_185_l103_frE k hq)
set_option maxRecDepth 100000 in
theorem f250_185_j77_frE {N : Nat} {I : tI} {J : tJ} {v : Int32} {I1 : tI} {J1 : tJ} (hq : f250_185_j77 N I J = some (v, I1, J1)) : frO qfIE qfJE I I1 J J1 := by
  unfold f250_185_j77 at hq
  have f0 : frO qfIE qfJE I I J J := fO_refl
  rcases bsp hq with ⟨-, hq⟩ | ⟨-, hq⟩
  ·
    generalize e6 : f234_185 I J (I 185 23) = q6 at hq
    obtain ⟨v6, I6, J6⟩ := q6
    dsimp only at hq
    have f6 := fO_tr f0 (f234_185_frE e6)
    cases hq
    exact f6
  ·
    cases e7 : f250_185_l103 N N (tup I 186 8 (I 186 2488)) J 252 with
    | none => rw [e7] at hq; cases hq
    | some Y =>
    obtain ⟨y7_3, I7, J7⟩ := Y
    rw [e7] at hq
    dsimp only at hq
    have f7 := fO_tr (fO_I f0 rfl) (f250_185_l103_frE N e7)
    generalize e8 : f234_185 I7 J7 (I7 185 23) = q8 at hq
    obtain ⟨v8, I8, J8⟩ := q8
    dsimp only at hq
    have f8 := fO_tr f7 (f234_185_frE e8)
    cases hq
    exact f8
set_option maxRecDepth 100000 in
theorem f250_185_j57_frE {N : Nat} {I : tI} {J : tJ} {v : Int32} {I1 : tI} {J1 : tJ} (hq : f250_185_j57 N I J = some (v, I1, J1)) : frO qfIE qfJE I I1 J J1 := by
  unfold f250_185_j57 at hq
  have f0 : frO qfIE qfJE I I J J := fO_refl
  rcases bsp hq with ⟨-, hq⟩ | ⟨-, hq⟩
  ·
    exact fO_tr f0 (f250_185_j77_frE hq)
  ·
    rcases bsp hq with ⟨-, hq⟩ | ⟨-, hq⟩
    ·
      exact fO_tr f0 (f250_185_j77_frE hq)
    ·
      generalize e6 : f225_185 I J 2 = q6 at hq
      obtain ⟨v6, I6, J6⟩ := q6
      dsimp only at hq
      have f6 := fO_tr f0 (f225_185_frE e6)
      exact fO_tr f6 (f250_185_j77_frE hq)
